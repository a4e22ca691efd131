/-! THE TEXT, as the reader goes through it -/
section
variable {tp : Nat → Nat} {n : Nat} {r : xS} {t t1 t2 t3 t4 t5 : xT} {f : Nat → Int32} {e : Nat × Nat} {k lo hi T S u : Nat} {i : Nat} {v : Int32}
theorem set_num : numR tp n lo hi (setR i v r) = setR i v (numR tp n lo hi r) := by
  cases r with
  | inl e => rw [num_inl]; exact num_inl
  | inr q =>
    obtain ⟨t, f⟩ := q
    by_cases h : isNR tp lo hi (.inr (t, f))
    · rw [num_n h]
      exact num_n (r := .inr (t, upd f i v)) h
    · by_cases h2 : tkR (.inr (t, f)) 2
      · rw [num_2 h h2]
        exact num_2 (r := .inr (t, upd f i v)) h h2
      · rw [num_1 h2]
        exact num_1 (r := .inr (t, upd f i v)) h2
theorem set_sgn : sgnR tp n (setR i v r) = setR i v (sgnR tp n r) := by
  cases r with
  | inl e => rw [sgn_inl]; exact sgn_inl
  | inr q =>
    obtain ⟨t, f⟩ := q
    by_cases h : tkR (.inr (t, f)) 3
    · rw [sgn_y h]
      exact sgn_y (r := .inr (t, upd f i v)) h
    · rw [sgn_n h]
      exact sgn_n (r := .inr (t, upd f i v)) h
theorem gri_inl : ∀ k, grI tp n k (.inl e) = .inl e
  | 0 => rfl
  | k + 1 => by rw [grI, gri_inl k, num_inl]; rfl
theorem gnd_l (h : wrdR tp n wGround r = .inl e) : gndR tp n r = .inl e := by unfold gndR; rw [h, gri_inl, sgn_inl]
theorem gri_s (he : grI tp n k r = .inr (t1, f)) (h : isNR tp 0 60 (.inr (t1, f))) : grI tp n (k + 1) r = .inr (lx tp n t1.2.2, upd f (6 + k) (nI (figR tp (.inr (t1, f))))) := by
  rw [grI, he, num_n h]; rfl
theorem gri_stop (h : grI tp n k r = .inl e) : ∀ j, grI tp n (k + j) r = .inl e
  | 0 => h
  | j + 1 => by rw [show k + (j + 1) = (k + j) + 1 by omega, grI, gri_stop h j, num_inl]; rfl
theorem gnd_s (he : grI tp n k (wrdR tp n wGround r) = .inr (t1, f)) (hk : k < 20) (h : numR tp n 0 60 (.inr (t1, f)) = .inl e) : gndR tp n r = .inl e := by
  have h1 : grI tp n (k + 1) (wrdR tp n wGround r) = .inl e := by rw [grI, he, h]; rfl
  have h2 := gri_stop h1 (19 - k)
  rw [show k + 1 + (19 - k) = 20 by omega] at h2
  unfold gndR
  rw [h2, sgn_inl]
theorem gri_4 : ∀ (k : Nat) {t1 : xT} {f1 : Nat → Int32}, grI tp n k r = .inr (t1, f1) → k ≤ 20 → ∃ t f, r = .inr (t, f) ∧ f1 4 = f 4
  | 0, t1, f1, h, _ => ⟨t1, f1, h, rfl⟩
  | k + 1, t1, f1, h, hk => by
    rw [grI] at h
    cases hq : numR tp n 0 60 (grI tp n k r) with
    | inl e => rw [hq] at h; cases h
    | inr z =>
      obtain ⟨t2, f2⟩ := z
      rw [hq] at h
      obtain ⟨-, t3, h3⟩ := k_num hq
      obtain ⟨t, f, e1, e2⟩ := gri_4 k h3 (by omega)
      cases h
      exact ⟨t, f, e1, by rw [upd_ne (by omega)]; exact e2⟩
theorem gnd_4 {f1 : Nat → Int32} (h : gndR tp n (.inr (t, f)) = .inr (t1, f1)) : f1 4 = f 4 := by
  obtain ⟨t2, h2⟩ := k_sgn h
  obtain ⟨t3, f3, h3, h4⟩ := gri_4 20 h2 (Nat.le_refl _)
  obtain ⟨t4, h5⟩ := k_wrd h3
  cases h5
  exact h4
/-- the lake -/
theorem lak_e : lakR tp n r = sgnR tp n (setR 5 (nI (figR tp (numR tp n 0 19 (nexR tp n r)))) (numR tp n (figR tp (nexR tp n r)) 19 (setR 4 (nI (figR tp (nexR tp n r))) (numR tp n 0 19 (nexR tp n r))))) := by
  unfold lakR
  rw [set_sgn, set_num, set_sgn]
theorem lak_1 (e1 : nexR tp n r = .inr (t1, f)) (e2 : numR tp n 0 19 (.inr (t1, f)) = .inl e) : lakR tp n r = .inl e := by
  rw [lak_e, e1, e2]
  show sgnR tp n (setR 5 _ (numR tp n _ 19 (.inl e))) = _
  rw [num_inl]
  exact sgn_inl
theorem lak_2 (e1 : nexR tp n r = .inr (t1, f)) (e3 : numR tp n 0 19 (.inr (t1, f)) = .inr (t2, f)) (e2 : numR tp n (figR tp (.inr (t1, f))) 19 (.inr (t2, upd f 4 (nI (figR tp (.inr (t1, f)))))) = .inl e) : lakR tp n r = .inl e := by
  rw [lak_e, e1, e3]
  show sgnR tp n (setR 5 _ (numR tp n (figR tp (.inr (t1, f))) 19 (.inr (t2, upd f 4 (nI (figR tp (.inr (t1, f)))))))) = _
  rw [e2]
  exact sgn_inl
theorem lak_3 {g : Nat → Int32} (e1 : nexR tp n r = .inr (t1, f)) (e3 : numR tp n 0 19 (.inr (t1, f)) = .inr (t2, f)) (e2 : numR tp n (figR tp (.inr (t1, f))) 19 (.inr (t2, upd f 4 (nI (figR tp (.inr (t1, f)))))) = .inr (t3, g)) :
    lakR tp n r = sgnR tp n (.inr (t3, upd g 5 (nI (figR tp (.inr (t2, g)))))) := by
  rw [lak_e, e1, e3]
  show sgnR tp n (setR 5 _ (numR tp n (figR tp (.inr (t1, f))) 19 (.inr (t2, upd f 4 (nI (figR tp (.inr (t1, f)))))))) = _
  rw [e2]
  rfl
theorem num_y {f' : Nat → Int32} (h : isNR tp lo hi (.inr (t, f'))) : numR tp n lo hi (.inr (t, f')) = .inr (lx tp n t.2.2, f') := num_n h
/-- a tree -/
theorem beg_3 {st : Nat} (h : f st = nI 6) : begR tp n st (.inr (t, f)) = .inl (3, t.2.1) := by
  show (if (f st).toInt = 6 then badR 3 (.inr (t, f)) else nexR tp n (.inr (t, f))) = _
  rw [if_pos (by rw [h]; rfl)]; rfl
theorem beg_g {st : Nat} (h : f st = nI T) (hT : T < 6) : begR tp n st (.inr (t, f)) = .inr (lx tp n t.2.2, f) := by
  show (if (f st).toInt = 6 then badR 3 (.inr (t, f)) else nexR tp n (.inr (t, f))) = _
  rw [if_neg (by rw [h, nI_toInt (by omega)]; omega)]; rfl
theorem adt_inl {a b c d : Int32} : adtR T a b c d (.inl e) = .inl e := rfl
theorem adh_inl {a b c : Int32} : adhR T a b c (.inl e) = .inl e := rfl
theorem tr_l5 (h : numR tp n 0 9 (tr2 tp n r) = .inl e) : treR tp n r = .inl e := by
  unfold treR tr1
  rw [h, sgn_inl]; rfl
theorem tr_l4 (h : tr2 tp n r = .inl e) : treR tp n r = .inl e := tr_l5 (by rw [h, num_inl])
theorem tr_l3 (h : tr3 tp n r = .inl e) : treR tp n r = .inl e := tr_l4 (by unfold tr2; rw [h, num_inl])
theorem tr_l2 (h : kmR tp n (begR tp n 0 r) = .inl e) : treR tp n r = .inl e := tr_l3 (by unfold tr3 tr4; rw [h, dup_n (r := .inl e) (fun q => q), num_inl])
theorem tr_l1 (h : begR tp n 0 r = .inl e) : treR tp n r = .inl e := tr_l2 (by rw [h]; unfold kmR; split <;> rfl)
theorem km_1 (e1 : begR tp n 0 r = .inr (t1, f)) (h : kbV (nmV tp (.inr (t1, f))) = -1000000) : kmR tp n (begR tp n 0 r) = .inl (1, t1.2.1) := by
  rw [e1]; unfold kmR; rw [if_pos h]; rfl
theorem km_2 (e1 : begR tp n 0 r = .inr (t1, f)) (h : kbV (nmV tp (.inr (t1, f))) ≠ -1000000) : kmR tp n (begR tp n 0 r) = .inr (lx tp n t1.2.2, f) := by
  rw [e1]; unfold kmR; rw [if_neg h]; rfl
theorem num_bad : numR tp n lo hi (badR k (.inr (t, f))) = badR k (.inr (t, f)) := num_inl
theorem tr3_n (e2 : kmR tp n (begR tp n 0 r) = .inr (t2, f)) (hn : ¬ isNR tp 0 19 (.inr (t2, f))) (e3 : numR tp n 0 19 (.inr (t2, f)) = .inl e) : tr3 tp n r = .inl e := by
  unfold tr3 tr4
  rw [e2]
  by_cases h : tdP tp (.inr (t2, f))
  · rw [dup_y h, num_bad, ← e3, num_2 hn h.1]
  · rw [dup_n h, e3]
theorem td_y (h0 : f 0 = nI T) (hT : T ≤ 6) (h2 : t2.1 = 2) (ho : taF f T (nI (figR tp (.inr (t2, f)))) = some u) : tdP tp (.inr (t2, f)) := by
  obtain ⟨h3, h4, -⟩ := xfind_spec ho
  exact ⟨h2, u, Nat.zero_le u, by rw [h0, nI_toInt (by omega)]; omega, h4⟩
theorem td_n (h0 : f 0 = nI T) (hT : T ≤ 6) (ho : taF f T (nI (figR tp (.inr (t2, f)))) = none) : ¬ tdP tp (.inr (t2, f)) := by
  rintro ⟨-, u, -, hu, h⟩
  rw [h0, nI_toInt (by omega)] at hu
  exact xfind_no ho u (by omega) h
theorem tr3_d (e2 : kmR tp n (begR tp n 0 r) = .inr (t2, f)) (h0 : f 0 = nI T) (hT : T ≤ 6) (h2 : t2.1 = 2) (ho : taF f T (nI (figR tp (.inr (t2, f)))) = some u) : tr3 tp n r = .inl (2, t2.2.1) := by
  unfold tr3 tr4
  rw [e2, dup_y (td_y h0 hT h2 ho), num_bad]; rfl
theorem tr4_y (e2 : kmR tp n (begR tp n 0 r) = .inr (t2, f)) (h0 : f 0 = nI T) (hT : T ≤ 6) (ho : taF f T (nI (figR tp (.inr (t2, f)))) = none) : tr4 tp n r = .inr (t2, f) := by
  unfold tr4
  rw [e2, dup_n (td_n h0 hT ho)]
theorem tr3_y (e4 : tr4 tp n r = .inr (t2, f)) (h2 : isNR tp 0 19 (.inr (t2, f))) : tr3 tp n r = .inr (lx tp n t2.2.2, f) := by unfold tr3; rw [e4]; exact num_y h2
theorem tr2_y (e3 : tr3 tp n r = .inr (t3, f)) (h3 : isNR tp 1 99 (.inr (t3, f))) : tr2 tp n r = .inr (lx tp n t3.2.2, f) := by unfold tr2; rw [e3]; exact num_y h3
theorem tr2_n (e3 : tr3 tp n r = .inr (t3, f)) (h3 : numR tp n 1 99 (.inr (t3, f)) = .inl e) : tr2 tp n r = .inl e := by unfold tr2; rw [e3, h3]
theorem tr_ok (h0 : f 0 = nI T) (hT : T ≤ 6) (hr : r = .inr (t, f)) (e1 : begR tp n 0 r = .inr (t1, f)) (e4 : tr4 tp n r = .inr (t2, f)) (e3 : tr3 tp n r = .inr (t3, f)) (e2 : tr2 tp n r = .inr (t4, f)) (e5 : numR tp n 0 9 (.inr (t4, f)) = .inr (t5, f)) :
    treR tp n r = sgnR tp n (.inr (t5, adF f T (kbV (nmV tp (.inr (t1, f)))) (nI (figR tp (.inr (t2, f)))) (nI (figR tp (.inr (t3, f)))) (nI (figR tp (.inr (t4, f)))))) := by
  have hT2 : rowT 0 r = T := by subst hr; show (f 0).toInt.toNat = T; rw [h0, nI_toInt (by omega)]; omega
  unfold treR tr1
  rw [hT2, e1, e4, e3, e2, e5]
  unfold adtR
  rw [← set_sgn, ← set_sgn, ← set_sgn, ← set_sgn, ← set_sgn]
  rfl
theorem kbV_b {w : Int64} (h : kbV w ≠ -1000000) : 1 ≤ (kbV w).toInt ∧ (kbV w).toInt ≤ 5 := by
  unfold kbV at *
  split
  · decide
  · split
    · decide
    · split
      · decide
      · split
        · decide
        · split
          · decide
          · rename_i h1 h2 h3 h4 h5
            rw [if_neg h1, if_neg h2, if_neg h3, if_neg h4, if_neg h5] at h
            exact absurd rfl h
/-- a thing -/
theorem th_l4 (h : shmR tp n (th2 tp n r) = .inl e) : thiR tp n r = .inl e := by
  unfold thiR th1
  rw [h, sgn_inl]; rfl
theorem th_l3 (h : th2 tp n r = .inl e) : thiR tp n r = .inl e := th_l4 (by rw [h]; exact shm_n (fun q => q.elim id id))
theorem th_l2 (h : th3 tp n r = .inl e) : thiR tp n r = .inl e := th_l3 (by unfold th2; rw [h, num_inl])
theorem th_l1 (h : begR tp n 1 r = .inl e) : thiR tp n r = .inl e := th_l2 (by unfold th3 th4; rw [h, num_inl])
theorem th3_y (e1 : begR tp n 1 r = .inr (t1, f)) (h : isNR tp 0 19 (.inr (t1, f))) : th3 tp n r = .inr (lx tp n t1.2.2, f) := by unfold th3 th4; rw [e1]; exact num_y h
theorem th3_n (e1 : begR tp n 1 r = .inr (t1, f)) (h : numR tp n 0 19 (.inr (t1, f)) = .inl e) : th3 tp n r = .inl e := by unfold th3 th4; rw [e1, h]
theorem th2_y (e1 : th3 tp n r = .inr (t1, f)) (h : isNR tp 1 99 (.inr (t1, f))) : th2 tp n r = .inr (lx tp n t1.2.2, f) := by unfold th2; rw [e1]; exact num_y h
theorem th2_n (e1 : th3 tp n r = .inr (t1, f)) (h : numR tp n 1 99 (.inr (t1, f)) = .inl e) : th2 tp n r = .inl e := by unfold th2; rw [e1, h]
theorem shm_1 (e1 : th2 tp n r = .inr (t1, f)) (h : ¬ wrdP tp wShow (.inr (t1, f))) (h2 : ¬ wrdP tp wHide (.inr (t1, f))) : shmR tp n (th2 tp n r) = .inl (1, t1.2.1) := by
  rw [e1, shm_n (fun q => q.elim h h2)]; rfl
theorem shm_2 (e1 : th2 tp n r = .inr (t1, f)) (h : wrdP tp wShow (.inr (t1, f)) ∨ wrdP tp wHide (.inr (t1, f))) : shmR tp n (th2 tp n r) = .inr (lx tp n t1.2.2, f) := by
  rw [e1, shm_y h]; rfl
theorem th_ok (h0 : f 1 = nI S) (hS : S ≤ 6) (hr : r = .inr (t, f)) (e1 : begR tp n 1 r = .inr (t1, f)) (e3 : th3 tp n r = .inr (t2, f)) (e2 : th2 tp n r = .inr (t3, f)) (e5 : shmR tp n (th2 tp n r) = .inr (t4, f)) :
    thiR tp n r = sgnR tp n (.inr (t4, ahF f S (nI (figR tp (.inr (t1, f)))) (nI (figR tp (.inr (t2, f)))) (xb (wrdP tp wShow (.inr (t3, f)))))) := by
  have hS2 : rowT 1 r = S := by subst hr; show (f 1).toInt.toNat = S; rw [h0, nI_toInt (by omega)]; omega
  unfold thiR th1
  rw [e5, hS2, e2, e3]
  unfold th4 adhR
  rw [e1, ← set_sgn, ← set_sgn, ← set_sgn, ← set_sgn]
  rfl
/-- the whole -/
theorem ps_g (h : gndR tp n r = .inl e) : psR tp n r = .inl e := by
  unfold psR
  rw [h, lako_n (r := .inl e) (fun q => q), trI_n (r := .inl e) (fun q => q), thI_n (r := .inl e) (fun q => q)]
  exact end_n (r := .inl e) (fun q => q)
theorem ps_l (h : lakO tp n (gndR tp n r) = .inl e) : psR tp n r = .inl e := by
  unfold psR
  rw [h, trI_n (r := .inl e) (fun q => q), thI_n (r := .inl e) (fun q => q)]
  exact end_n (r := .inl e) (fun q => q)
theorem ps_t (h : trI tp n 7 (lakO tp n (gndR tp n r)) = .inl e) : psR tp n r = .inl e := by
  unfold psR
  rw [h, thI_n (r := .inl e) (fun q => q)]
  exact end_n (r := .inl e) (fun q => q)
theorem ps_h (h : thI tp n 7 (trI tp n 7 (lakO tp n (gndR tp n r))) = .inl e) : psR tp n r = .inl e := by
  unfold psR
  rw [h]
  exact end_n (r := .inl e) (fun q => q)
end
