/-! A GARDEN'S TEXT: what it tells -/
section
variable (tp : Nat → Nat) (n : Nat)
noncomputable def grI : Nat → xS → xS
  | 0, r => r
  | k + 1, r => setR (6 + k) (nI (figR tp (grI k r))) (numR tp n 0 60 (grI k r))
noncomputable def gndR (r : xS) : xS := sgnR tp n (grI tp n 20 (wrdR tp n wGround r))
/-- the lake, as the reference sets it: at the end -/
noncomputable def lakR (r : xS) : xS :=
  setR 5 (nI (figR tp (numR tp n 0 19 (nexR tp n r)))) (setR 4 (nI (figR tp (nexR tp n r))) (sgnR tp n (numR tp n (figR tp (nexR tp n r)) 19 (numR tp n 0 19 (nexR tp n r)))))
noncomputable def kmR (r : xS) : xS := if kbV (nmV tp r) = -1000000 then badR 1 r else nexR tp n r
def tdP (r : xS) : Prop := match r with
  | .inl _ => False
  | .inr (t, f) => t.1 = 2 ∧ ∃ u : Nat, 0 ≤ u ∧ u < (f 0).toInt.toNat ∧ f (26 + 5 * u + 1) = nI (figR tp (.inr (t, f)))
noncomputable def dupR (r : xS) : xS := @ite _ (tdP tp r) (Classical.propDecidable _) (badR 2 r) r
def rowT (i : Nat) (r : xS) : Nat := match r with
  | .inl _ => 0
  | .inr (_, f) => (f i).toInt.toNat
def adtR (T : Nat) (kd a h c : Int32) (r : xS) : xS := setR 0 (nI (T + 1)) (setR (26 + 5 * T + 3) c (setR (26 + 5 * T + 2) h (setR (26 + 5 * T + 1) a (setR (26 + 5 * T) kd r))))
noncomputable def tr4 (r : xS) : xS := dupR tp (kmR tp n (begR tp n 0 r))
noncomputable def tr3 (r : xS) : xS := numR tp n 0 19 (tr4 tp n r)
noncomputable def tr2 (r : xS) : xS := numR tp n 1 99 (tr3 tp n r)
noncomputable def tr1 (r : xS) : xS := sgnR tp n (numR tp n 0 9 (tr2 tp n r))
noncomputable def treR (r : xS) : xS := adtR (rowT 0 r) (kbV (nmV tp (begR tp n 0 r))) (nI (figR tp (tr4 tp n r))) (nI (figR tp (tr3 tp n r))) (nI (figR tp (tr2 tp n r))) (tr1 tp n r)
def adhR (S : Nat) (a h s : Int32) (r : xS) : xS := setR 1 (nI (S + 1)) (setR (56 + 3 * S + 2) s (setR (56 + 3 * S + 1) h (setR (56 + 3 * S) a r)))
noncomputable def shmR (r : xS) : xS := @ite _ (wrdP tp wShow r ∨ wrdP tp wHide r) (Classical.propDecidable _) (nexR tp n r) (badR 1 r)
noncomputable def th4 (r : xS) : xS := begR tp n 1 r
noncomputable def th3 (r : xS) : xS := numR tp n 0 19 (th4 tp n r)
noncomputable def th2 (r : xS) : xS := numR tp n 1 99 (th3 tp n r)
noncomputable def th1 (r : xS) : xS := sgnR tp n (shmR tp n (th2 tp n r))
noncomputable def thiR (r : xS) : xS := adhR (rowT 1 r) (nI (figR tp (th4 tp n r))) (nI (figR tp (th3 tp n r))) (xb (wrdP tp wShow (th2 tp n r))) (th1 tp n r)
noncomputable def lakO (r : xS) : xS := @ite _ (wrdP tp wLake r) (Classical.propDecidable _) (lakR tp n r) r
noncomputable def trI : Nat → xS → xS
  | 0, r => r
  | k + 1, r => @ite _ (wrdP tp wTree r) (Classical.propDecidable _) (trI k (treR tp n r)) r
noncomputable def thI : Nat → xS → xS
  | 0, r => r
  | k + 1, r => @ite _ (wrdP tp wThing r) (Classical.propDecidable _) (thI k (thiR tp n r)) r
noncomputable def endR (r : xS) : xS := @ite _ (tkR r 0) (Classical.propDecidable _) r (badR 1 r)
noncomputable def psR (r : xS) : xS := endR (thI tp n 7 (trI tp n 7 (lakO tp n (gndR tp n r))))
end
section
variable {tp : Nat → Nat} {n : Nat} {B J K : xM} {r : xS} {t : xT} {f g : Nat → Int32} {k : Nat}
theorem rf_set2 (h : rfS tp n B J r) {i : Nat} {v w : Int32} (e : v = w) : rfS tp n B (xput J 312 i v) (setR i w r) := by subst e; exact rf_set h i v
theorem set_inl {i : Nat} {v : Int32} {e : Nat × Nat} : setR i v (.inl e) = .inl e := rfl
theorem rf_f (h : rfS tp n B J r) : figR tp r ≤ 999 := by
  cases r with
  | inl e => exact Nat.zero_le _
  | inr q => obtain ⟨t, f⟩ := q; exact fig_le (rf_i h).1
theorem set_l (h : rfS tp n B J r) (h2 : (J 307 18).toInt ≠ 0) {i : Nat} {v : Int32} : rfS tp n B J (setR i v r) := by
  obtain ⟨e, rfl⟩ := rf_l h h2; exact h
theorem lak_l (h : rfS tp n B J r) (h2 : (J 307 18).toInt ≠ 0) {v w : Int32} : rfS tp n B J (setR 5 v (setR 4 w r)) := by
  obtain ⟨e, rfl⟩ := rf_l h h2; exact h
theorem km_l (h : rfS tp n B J r) (h2 : (J 307 18).toInt ≠ 0) : rfS tp n B J (kmR tp n r) := by
  obtain ⟨e, rfl⟩ := rf_l h h2
  have : kmR tp n (.inl e) = .inl e := by unfold kmR; split <;> rfl
  rw [this]; exact h
theorem dup_y (h : tdP tp r) : dupR tp r = badR 2 r := @if_pos _ (Classical.propDecidable _) h _ _ _
theorem dup_n (h : ¬ tdP tp r) : dupR tp r = r := @if_neg _ (Classical.propDecidable _) h _ _ _
theorem dup_l (h : rfS tp n B J r) (h2 : (J 307 18).toInt ≠ 0) : rfS tp n B J (dupR tp r) := by
  obtain ⟨e, rfl⟩ := rf_l h h2
  rw [dup_n (r := .inl e) (fun q => q)]; exact h
theorem shm_y (h : wrdP tp wShow r ∨ wrdP tp wHide r) : shmR tp n r = nexR tp n r := @if_pos _ (Classical.propDecidable _) h _ _ _
theorem shm_n (h : ¬ (wrdP tp wShow r ∨ wrdP tp wHide r)) : shmR tp n r = badR 1 r := @if_neg _ (Classical.propDecidable _) h _ _ _
theorem shm_l (h : rfS tp n B J r) (h2 : (J 307 18).toInt ≠ 0) : rfS tp n B J (shmR tp n r) := by
  obtain ⟨e, rfl⟩ := rf_l h h2
  rw [shm_n (r := .inl e) (fun q => q.elim id id)]; exact h
theorem end_y (h : tkR r 0) : endR r = r := @if_pos _ (Classical.propDecidable _) h _ _ _
theorem end_n (h : ¬ tkR r 0) : endR r = badR 1 r := @if_neg _ (Classical.propDecidable _) h _ _ _
theorem lako_y (h : wrdP tp wLake r) : lakO tp n r = lakR tp n r := @if_pos _ (Classical.propDecidable _) h _ _ _
theorem lako_n (h : ¬ wrdP tp wLake r) : lakO tp n r = r := @if_neg _ (Classical.propDecidable _) h _ _ _
/-- what is read goes on with the row that was -/
theorem k_bad : badR k r = .inr (t, f) → False := by intro h; cases r <;> cases h
theorem k_nex (h : nexR tp n r = .inr (t, f)) : ∃ t', r = .inr (t', f) := by
  cases r with
  | inl e => cases h
  | inr q => obtain ⟨a, b⟩ := q; cases h; exact ⟨a, rfl⟩
theorem k_num {lo hi : Nat} (h : numR tp n lo hi r = .inr (t, f)) : isNR tp lo hi r ∧ ∃ t', r = .inr (t', f) := by
  by_cases h1 : isNR tp lo hi r
  · rw [num_n h1] at h; exact ⟨h1, k_nex h⟩
  · by_cases h2 : tkR r 2
    · rw [num_2 h1 h2] at h; exact (k_bad h).elim
    · rw [num_1 h2] at h; exact (k_bad h).elim
theorem k_sgn (h : sgnR tp n r = .inr (t, f)) : ∃ t', r = .inr (t', f) := by
  by_cases h1 : tkR r 3
  · rw [sgn_y h1] at h; exact k_nex h
  · rw [sgn_n h1] at h; exact (k_bad h).elim
theorem k_wrd {w : List Nat} (h : wrdR tp n w r = .inr (t, f)) : ∃ t', r = .inr (t', f) := by
  by_cases h1 : wrdP tp w r
  · rw [wrd_y h1] at h; exact k_nex h
  · rw [wrd_n h1] at h; exact (k_bad h).elim
theorem k_dup (h : dupR tp r = .inr (t, f)) : ¬ tdP tp r ∧ r = .inr (t, f) := by
  by_cases h1 : tdP tp r
  · rw [dup_y h1] at h; exact (k_bad h).elim
  · rw [dup_n h1] at h; exact ⟨h1, h⟩
theorem k_km (h : kmR tp n r = .inr (t, f)) : kbV (nmV tp r) ≠ -1000000 ∧ ∃ t', r = .inr (t', f) := by
  unfold kmR at h
  split at h
  · exact (k_bad h).elim
  · rename_i h2; exact ⟨h2, k_nex h⟩
theorem k_shm (h : shmR tp n r = .inr (t, f)) : ∃ t', r = .inr (t', f) := by
  by_cases h1 : wrdP tp wShow r ∨ wrdP tp wHide r
  · rw [shm_y h1] at h; exact k_nex h
  · rw [shm_n h1] at h; exact (k_bad h).elim
theorem k_beg {st : Nat} (h : begR tp n st r = .inr (t, f)) : (f st).toInt ≠ 6 ∧ ∃ t', r = .inr (t', f) := by
  cases r with
  | inl e => cases h
  | inr q =>
    obtain ⟨a, b⟩ := q
    have h2 : (if (b st).toInt = 6 then badR 3 (.inr (a, b)) else nexR tp n (.inr (a, b))) = .inr (t, f) := h
    split at h2
    · exact (k_bad h2).elim
    · rename_i h3
      obtain ⟨t', e⟩ := k_nex h2
      cases e
      exact ⟨h3, a, rfl⟩
theorem k_end (h : endR r = .inr (t, f)) : r = .inr (t, f) := by
  by_cases h1 : tkR r 0
  · rw [end_y h1] at h; exact h
  · rw [end_n h1] at h; exact (k_bad h).elim
theorem k_tr1 (h : tr1 tp n r = .inr (t, f)) : (f 0).toInt ≠ 6 ∧ ∃ t', r = .inr (t', f) := by
  obtain ⟨t1, h1⟩ := k_sgn h
  obtain ⟨-, t2, h2⟩ := k_num h1
  obtain ⟨-, t3, h3⟩ := k_num h2
  obtain ⟨-, t4, h4⟩ := k_num h3
  obtain ⟨-, h5⟩ := k_dup h4
  obtain ⟨-, t6, h6⟩ := k_km h5
  exact k_beg h6
theorem k_th1 (h : th1 tp n r = .inr (t, f)) : (f 1).toInt ≠ 6 ∧ ∃ t', r = .inr (t', f) := by
  obtain ⟨t1, h1⟩ := k_sgn h
  obtain ⟨t2, h2⟩ := k_shm h1
  obtain ⟨-, t3, h3⟩ := k_num h2
  obtain ⟨-, t4, h4⟩ := k_num h3
  exact k_beg h4
/-- how many stand so far -/
def PIR (r : xS) : Prop := match r with
  | .inl _ => True
  | .inr (_, f) => ∃ T S : Nat, f 0 = nI T ∧ f 1 = nI S ∧ T ≤ 6 ∧ S ≤ 6
theorem adt_l (h : rfS tp n B J r) (h2 : (J 307 18).toInt ≠ 0) {T : Nat} {a b c d : Int32} : rfS tp n B J (adtR T a b c d r) := by
  obtain ⟨e, rfl⟩ := rf_l h h2; exact h
theorem adh_l (h : rfS tp n B J r) (h2 : (J 307 18).toInt ≠ 0) {S : Nat} {a b c : Int32} : rfS tp n B J (adhR S a b c r) := by
  obtain ⟨e, rfl⟩ := rf_l h h2; exact h
theorem rf_adt (h : rfS tp n B J r) {T : Nat} {a b c d : Int32} : rfS tp n B (xput (xput (xput (xput (xput J 312 (26 + 5 * T) a) 312 (26 + 5 * T + 1) b) 312 (26 + 5 * T + 2) c) 312 (26 + 5 * T + 3) d) 312 0 (nI (T + 1))) (adtR T a b c d r) := rf_set (rf_set (rf_set (rf_set (rf_set h _ _) _ _) _ _) _ _) _ _
theorem rf_adh (h : rfS tp n B J r) {S : Nat} {a b c : Int32} : rfS tp n B (xput (xput (xput (xput J 312 (56 + 3 * S) a) 312 (56 + 3 * S + 1) b) 312 (56 + 3 * S + 2) c) 312 1 (nI (S + 1))) (adhR S a b c r) := rf_set (rf_set (rf_set (rf_set h _ _) _ _) _ _) _ _
theorem pi_row (hp : PIR r) {i : Nat} (hi : i ≤ 1) : rowT i r ≤ 6 := by
  cases r with
  | inl e => exact Nat.zero_le _
  | inr q =>
    obtain ⟨t, f⟩ := q
    obtain ⟨T, S, h1, h2, h3, h4⟩ := hp
    show (f i).toInt.toNat ≤ 6
    rcases (show i = 0 ∨ i = 1 by omega) with rfl | rfl
    · rw [h1, nI_toInt (by omega)]; omega
    · rw [h2, nI_toInt (by omega)]; omega
theorem pi_r (hp : PIR (.inr (t, f))) {i : Nat} (hi : i ≤ 1) : f i = nI (rowT i (.inr (t, f))) := by
  obtain ⟨T, S, h1, h2, h3, h4⟩ := hp
  show f i = nI (f i).toInt.toNat
  rcases (show i = 0 ∨ i = 1 by omega) with rfl | rfl
  · rw [h1, nI_toInt (by omega)]; congr 1
  · rw [h2, nI_toInt (by omega)]; congr 1
theorem rowT_l {t' : xT} {i : Nat} : rowT i (.inr (t, f)) = rowT i (.inr (t', f)) := rfl
theorem upd_i {i j : Nat} {v : Int32} (h : j ≠ i) : upd f i v j = f j := upd_ne h
theorem pi_adt {T : Nat} {a b c d : Int32} (hT : T < 6) (hp : PIR r) : PIR (adtR T a b c d r) := by
  cases r with
  | inl e => trivial
  | inr q =>
    obtain ⟨t, f⟩ := q
    obtain ⟨T', S, h1, h2, h3, h4⟩ := hp
    refine ⟨T + 1, S, upd_eq, ?_, by omega, h4⟩
    show upd (upd (upd (upd (upd f (26 + 5 * T) a) (26 + 5 * T + 1) b) (26 + 5 * T + 2) c) (26 + 5 * T + 3) d) 0 (nI (T + 1)) 1 = _
    rw [upd_ne (by omega), upd_ne (by omega), upd_ne (by omega), upd_ne (by omega), upd_ne (by omega)]
    exact h2
theorem pi_adh {S : Nat} {a b c : Int32} (hS : S < 6) (hp : PIR r) : PIR (adhR S a b c r) := by
  cases r with
  | inl e => trivial
  | inr q =>
    obtain ⟨t, f⟩ := q
    obtain ⟨T, S', h1, h2, h3, h4⟩ := hp
    refine ⟨T, S + 1, ?_, upd_eq, h3, by omega⟩
    show upd (upd (upd (upd f (56 + 3 * S) a) (56 + 3 * S + 1) b) (56 + 3 * S + 2) c) 1 (nI (S + 1)) 0 = _
    rw [upd_ne (by omega), upd_ne (by omega), upd_ne (by omega), upd_ne (by omega)]
    exact h1
end
section
variable {tp : Nat → Nat} {n : Nat} {B J K : xM} {q r : xS} {t : xT} {f g : Nat → Int32} {k : Nat}
theorem rf_adh2 (h : rfS tp n B J r) {S : Nat} {a b c v : Int32} (e : v = c) : rfS tp n B (xput (xput (xput (xput J 312 (56 + 3 * S) a) 312 (56 + 3 * S + 1) b) 312 (56 + 3 * S + 2) v) 312 1 (nI (S + 1))) (adhR S a b c r) := by subst e; exact rf_adh h
theorem pi_of (hk : ∀ t f, q = .inr (t, f) → ∃ t', r = .inr (t', f)) (hp : PIR r) : PIR q := by
  cases q with
  | inl e => trivial
  | inr z =>
    obtain ⟨t, f⟩ := z
    obtain ⟨t', e⟩ := hk t f rfl
    subst e
    exact hp
theorem pi_set {i : Nat} {v : Int32} (hi : 2 ≤ i) (hp : PIR r) : PIR (setR i v r) := by
  cases r with
  | inl e => trivial
  | inr z =>
    obtain ⟨t, f⟩ := z
    obtain ⟨T, S, h1, h2, h3, h4⟩ := hp
    exact ⟨T, S, by rw [upd_ne (by omega)]; exact h1, by rw [upd_ne (by omega)]; exact h2, h3, h4⟩
theorem pi_gri (hp : PIR r) : ∀ k, PIR (grI tp n k r)
  | 0 => hp
  | k + 1 => pi_set (by omega) (pi_of (fun _ _ h => (k_num h).2) (pi_gri hp k))
theorem pi_gnd (hp : PIR r) : PIR (gndR tp n r) := pi_of (fun _ _ h => k_sgn h) (pi_gri (pi_of (fun _ _ h => k_wrd h) hp) 20)
theorem pi_lak (hp : PIR r) : PIR (lakR tp n r) := pi_set (by decide) (pi_set (by decide) (pi_of (fun _ _ h => k_sgn h) (pi_of (fun _ _ h => (k_num h).2) (pi_of (fun _ _ h => (k_num h).2) (pi_of (fun _ _ h => k_nex h) hp)))))
theorem pi_lako (hp : PIR r) : PIR (lakO tp n r) := by
  by_cases h : wrdP tp wLake r
  · rw [lako_y h]; exact pi_lak hp
  · rw [lako_n h]; exact hp
def mT (i : Nat) (r : xS) : Nat := match r with
  | .inl _ => 0
  | .inr (_, f) => 7 - (f i).toInt.toNat
theorem mT_7 {i : Nat} : mT i r ≤ 7 := by
  cases r with
  | inl e => exact Nat.zero_le _
  | inr z => obtain ⟨t, f⟩ := z; exact Nat.sub_le _ _
theorem tre_c (hp : PIR r) : PIR (treR tp n r) ∧ (mT 0 (treR tp n r) < mT 0 r ∨ ∃ e, treR tp n r = .inl e) := by
  unfold treR
  cases h : tr1 tp n r with
  | inl e => exact ⟨trivial, Or.inr ⟨e, rfl⟩⟩
  | inr z =>
    obtain ⟨t, f⟩ := z
    obtain ⟨h6, t', e⟩ := k_tr1 h
    subst e
    have h1 := pi_r hp (i := 0) (by decide)
    have h2 := pi_row hp (i := 0) (by decide)
    rw [h1, nI_toInt (by omega)] at h6
    refine ⟨pi_adt (by omega) hp, Or.inl ?_⟩
    show 7 - (upd _ 0 (nI (rowT 0 (.inr (t', f)) + 1)) 0).toInt.toNat < 7 - (f 0).toInt.toNat
    rw [upd_eq, nI_toInt (by omega), h1, nI_toInt (by omega)]
    omega
theorem thi_c (hp : PIR r) : PIR (thiR tp n r) ∧ (mT 1 (thiR tp n r) < mT 1 r ∨ ∃ e, thiR tp n r = .inl e) := by
  unfold thiR
  cases h : th1 tp n r with
  | inl e => exact ⟨trivial, Or.inr ⟨e, rfl⟩⟩
  | inr z =>
    obtain ⟨t, f⟩ := z
    obtain ⟨h6, t', e⟩ := k_th1 h
    subst e
    have h1 := pi_r hp (i := 1) (by decide)
    have h2 := pi_row hp (i := 1) (by decide)
    rw [h1, nI_toInt (by omega)] at h6
    refine ⟨pi_adh (by omega) hp, Or.inl ?_⟩
    show 7 - (upd _ 1 (nI (rowT 1 (.inr (t', f)) + 1)) 1).toInt.toNat < 7 - (f 1).toInt.toNat
    rw [upd_eq, nI_toInt (by omega), h1, nI_toInt (by omega)]
    omega
theorem wrdP_r {w : List Nat} (h : wrdP tp w r) : ∃ t f, r = .inr (t, f) := by
  cases r with
  | inl e => exact h.elim
  | inr z => exact ⟨z.1, z.2, rfl⟩
theorem mT_1 {w : List Nat} {i : Nat} (hi : i ≤ 1) (hp : PIR r) (h : wrdP tp w r) : 1 ≤ mT i r := by
  obtain ⟨t, f, rfl⟩ := wrdP_r h
  have := pi_row hp hi
  show 1 ≤ 7 - rowT i (.inr (t, f))
  omega
theorem trI_n (h : ¬ wrdP tp wTree r) : ∀ j, trI tp n j r = r
  | 0 => rfl
  | j + 1 => @if_neg _ (Classical.propDecidable _) h _ _ _
theorem thI_n (h : ¬ wrdP tp wThing r) : ∀ j, thI tp n j r = r
  | 0 => rfl
  | j + 1 => @if_neg _ (Classical.propDecidable _) h _ _ _
theorem trI_y (h : wrdP tp wTree r) {j : Nat} : trI tp n (j + 1) r = trI tp n j (treR tp n r) := @if_pos _ (Classical.propDecidable _) h _ _ _
theorem thI_y (h : wrdP tp wThing r) {j : Nat} : thI tp n (j + 1) r = thI tp n j (thiR tp n r) := @if_pos _ (Classical.propDecidable _) h _ _ _
theorem tr_sat : ∀ (m : Nat) (r : xS), PIR r → mT 0 r ≤ m → ∀ j, mT 0 r ≤ j → trI tp n j r = trI tp n (mT 0 r) r
  | m, r, hp, hm, j, hj => by
    by_cases h : wrdP tp wTree r
    · have h1 := mT_1 (i := 0) (by decide) hp h
      obtain ⟨j', rfl⟩ : ∃ j', j = j' + 1 := ⟨j - 1, by omega⟩
      obtain ⟨m', rfl⟩ : ∃ m', m = m' + 1 := ⟨m - 1, by omega⟩
      obtain ⟨a, ha⟩ : ∃ a, mT 0 r = a + 1 := ⟨mT 0 r - 1, by omega⟩
      rw [ha, trI_y h, trI_y h]
      obtain ⟨hp2, hlt | ⟨e, he⟩⟩ := tre_c (tp := tp) (n := n) hp
      · rw [tr_sat m' _ hp2 (by omega) j' (by omega), tr_sat m' _ hp2 (by omega) a (by omega)]
      · rw [he, trI_n (r := .inl e) (fun q => q), trI_n (r := .inl e) (fun q => q)]
    · rw [trI_n h, trI_n h]
theorem th_sat : ∀ (m : Nat) (r : xS), PIR r → mT 1 r ≤ m → ∀ j, mT 1 r ≤ j → thI tp n j r = thI tp n (mT 1 r) r
  | m, r, hp, hm, j, hj => by
    by_cases h : wrdP tp wThing r
    · have h1 := mT_1 (i := 1) (by decide) hp h
      obtain ⟨j', rfl⟩ : ∃ j', j = j' + 1 := ⟨j - 1, by omega⟩
      obtain ⟨m', rfl⟩ : ∃ m', m = m' + 1 := ⟨m - 1, by omega⟩
      obtain ⟨a, ha⟩ : ∃ a, mT 1 r = a + 1 := ⟨mT 1 r - 1, by omega⟩
      rw [ha, thI_y h, thI_y h]
      obtain ⟨hp2, hlt | ⟨e, he⟩⟩ := thi_c (tp := tp) (n := n) hp
      · rw [th_sat m' _ hp2 (by omega) j' (by omega), th_sat m' _ hp2 (by omega) a (by omega)]
      · rw [he, thI_n (r := .inl e) (fun q => q), thI_n (r := .inl e) (fun q => q)]
    · rw [thI_n h, thI_n h]
theorem tr7_y (hp : PIR r) (h : wrdP tp wTree r) : trI tp n 7 r = trI tp n 7 (treR tp n r) := by
  rw [tr_sat 7 _ (tre_c hp).1 mT_7 7 mT_7, show (7 : Nat) = 6 + 1 from rfl, trI_y h]
  obtain ⟨hp2, hlt | ⟨e, he⟩⟩ := tre_c (tp := tp) (n := n) hp
  · have := mT_7 (i := 0) (r := r)
    exact tr_sat 7 _ hp2 mT_7 6 (by omega)
  · rw [he, trI_n (r := .inl e) (fun q => q), trI_n (r := .inl e) (fun q => q)]
theorem th7_y (hp : PIR r) (h : wrdP tp wThing r) : thI tp n 7 r = thI tp n 7 (thiR tp n r) := by
  rw [th_sat 7 _ (thi_c hp).1 mT_7 7 mT_7, show (7 : Nat) = 6 + 1 from rfl, thI_y h]
  obtain ⟨hp2, hlt | ⟨e, he⟩⟩ := thi_c (tp := tp) (n := n) hp
  · have := mT_7 (i := 1) (r := r)
    exact th_sat 7 _ hp2 mT_7 6 (by omega)
  · rw [he, thI_n (r := .inl e) (fun q => q), thI_n (r := .inl e) (fun q => q)]
theorem tr7_m (hp : PIR r) (h : wrdP tp wTree r) : mT 0 (treR tp n r) < mT 0 r := by
  have h1 := mT_1 (i := 0) (by decide) hp h
  obtain ⟨hp2, hlt | ⟨e, he⟩⟩ := tre_c (tp := tp) (n := n) hp
  · exact hlt
  · rw [he]; exact h1
theorem th7_m (hp : PIR r) (h : wrdP tp wThing r) : mT 1 (thiR tp n r) < mT 1 r := by
  have h1 := mT_1 (i := 1) (by decide) hp h
  obtain ⟨hp2, hlt | ⟨e, he⟩⟩ := thi_c (tp := tp) (n := n) hp
  · exact hlt
  · rw [he]; exact h1
/-- before the first token -/
def bsF (f : Nat → Int32) (k : Nat) : Nat → Int32 := fun i => if i < k then (if i = 4 then nI 20 else nI 0) else f i
theorem bsF_0 : bsF f 0 = f := by funext i; simp [bsF]
theorem bsF_s {v : Int32} (hv : v = if k = 4 then nI 20 else nI 0) : upd (bsF f k) k v = bsF f (k + 1) := by
  subst hv
  funext i
  by_cases h : i = k
  · subst h; rw [upd_eq]; unfold bsF; rw [if_pos (Nat.lt_succ_self i)]
  · rw [upd_ne h]; unfold bsF
    by_cases h2 : i < k
    · rw [if_pos h2, if_pos (show i < k + 1 by omega)]
    · rw [if_neg h2, if_neg (show ¬ i < k + 1 by omega)]
theorem rf_bs {v : Int32} (h : rfS tp n B J (.inr (t, bsF f k))) (hv : v = if k = 4 then nI 20 else nI 0) : rfS tp n B (xput J 312 k v) (.inr (t, bsF f (k + 1))) := by
  rw [← bsF_s hv]; exact rf_set h k v
theorem pi_bs : PIR (.inr (t, bsF f 74)) := ⟨0, 0, rfl, rfl, by decide, by decide⟩
def gB (I : xM) (n : Nat) : xM := xput (xput I 307 13 (nI n)) 307 11 (nI 0)
def tpQ (I : xM) (tp : Nat → Nat) (n : Nat) : Prop := I 307 11 = nI n ∧ n ≤ 400 ∧ ∀ k, k < n → I 314 k = nI (tp k) ∧ tp k ≤ 255
theorem tq_B {I : xM} (h : tpQ I tp n) : tpP (gB I n) tp n := ⟨xput_i (by decide) xput_e, h.2.1, fun k hk => ⟨xput_o (by decide) (xput_o (by decide) (h.2.2 k hk).1), (h.2.2 k hk).2⟩⟩
theorem beg_rf {I : xM} (hK : nxJ (xput (xput (gB I n) 307 14 (nI 0)) 307 18 (nI 0)) K (lx tp n 0)) : rfS tp n (gB I n) K (.inr (lx tp n 0, I 312)) := by
  obtain ⟨⟨n1, n2⟩, k1, k2, k3, k4⟩ := hK
  refine ⟨⟨fun o h1 h2 => (n1 o h1).trans ((xput_ne h1).trans (xput_ne h1)), fun j hj => (n2 j (by omega)).trans (xput_i (by omega) (xput_i (by omega) rfl))⟩, lx tp n 0, lx_W (Nat.zero_le n), ⟨k1, k2, k3, k4⟩, Or.inr ⟨_, rfl, (n2 18 (by omega)).trans xput_e, ?_⟩⟩
  rw [n1 312 (by decide)]
  exact (xput_ne (by decide)).trans ((xput_ne (by decide)).trans ((xput_ne (by decide)).trans (xput_ne (by decide))))
theorem end_l (h : rfS tp n B J r) (h2 : (J 307 18).toInt ≠ 0) : rfS tp n B J (endR r) := by
  obtain ⟨e, rfl⟩ := rf_l h h2
  rw [end_n (r := .inl e) (fun q => q)]; exact h
end
