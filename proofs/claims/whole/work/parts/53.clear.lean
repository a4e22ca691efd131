/-! THE SPARE GARDEN, cleared; the references, swapped -/
def clM (I : xM) (g : Nat) : xM := xput (xput (xput (xput (xput (xput (xrow I (g + 1) (xfill (I (g + 1)) (fun _ => nI 0) 0 20)) g 1 (nI 0)) g 2 (-1000000)) g 3 (nI 0)) g 9 (nI 0)) g 13 (nI 0)) g 14 (nI 0)
theorem bs_z {f : Nat → Int32} {i : Nat} (h : i < 74) (h4 : i ≠ 4) : bsF f 74 i = nI 0 := by
  unfold bsF
  rw [if_pos h, if_neg h4]
section
variable {tp : Nat → Nat} {n g : Nat} {I K : xM} {f : Nat → Int32}
theorem clM_o {o : Nat} (h : o ≠ g) (h1 : o ≠ g + 1) : clM I g o = I o := by
  unfold clM
  rw [xput_ne h, xput_ne h, xput_ne h, xput_ne h, xput_ne h, xput_ne h, xrow_o h1]
theorem cl_tape (hg : 8 ≤ g) (h : cbP I tp n) : cbP (xput (clM I g) 2 3 (nI 0)) tp n :=
  ⟨xput_i (by decide) ((congrFun (clM_o (by omega) (by omega)) 1).trans h.1), h.2.1, fun k hk => by rw [xput_ne (by decide), clM_o (by omega) (by omega)]; exact h.2.2 k hk⟩
theorem good_0 : goodF (bsF f 74) 0 0 20 0 := by
  refine ⟨⟨⟨rfl, rfl, by decide, by decide⟩, fun k hk => absurd hk (Nat.not_lt_zero k), fun u hu => absurd hu (Nat.not_lt_zero u), fun u hu => absurd hu (Nat.not_lt_zero u), fun u x hu => absurd hu (Nat.not_lt_zero u), fun k hk => absurd hk (Nat.not_lt_zero k), Or.inl rfl, rfl, by decide, rfl, by decide⟩, ⟨fun p hp => ?_, fun u hu => absurd hu (Nat.not_lt_zero u), fun k hk => absurd hk (Nat.not_lt_zero k), ?_, ?_⟩, rfl, rfl, fun u hu => bs_z (by omega) (by omega)⟩
  · rw [bs_z (by omega) (by omega)]; decide
  · show 0 ≤ (bsF f 74 2).toInt; rw [bs_z (by omega) (by omega)]; decide
  · show (bsF f 74 2).toInt ≤ 999; rw [bs_z (by omega) (by omega)]; decide
theorem cl_ok (hg : 8 ≤ g) (hI : BZ I g) (hK : cxJ tp (xput (clM I g) 2 3 (nI 0)) K (lx tp n 0)) : cOK tp n g I K (lx tp n 0) (bsF f 74) := by
  have k : ∀ o, o ≠ 2 → K o = clM I g o := fun o ho => (hK.1.1 o ho).trans (xput_ne ho)
  have kg : ∀ j, K g j = clM I g g j := fun j => congrFun (k g (by omega)) j
  refine ⟨⟨fun o h1 h2 => (k o h1).trans (clM_o (by omega) (by omega)), fun j hj => (hK.1.2 j (by omega)).trans ((xput_i (by omega) rfl).trans (congrFun (clM_o (by omega) (by omega)) j)), ⟨fun q hq => ?_, ?_⟩⟩, lx_W (Nat.zero_le n), hK.2, ⟨0, 0, 20, 0, ⟨⟨?_, ?_, ?_, ?_⟩, fun q hq => ?_, fun u hu => absurd hu (Nat.not_lt_zero u), fun q hq => absurd hq (Nat.not_lt_zero q), 0, -1000000, ?_, ?_, by omega, by omega, by omega, by omega, fun m hm => by omega⟩, good_0⟩, fun _ => ⟨bs_z (by decide) (by decide), ?_⟩⟩
  · rw [k (g + 9) (by omega), clM_o (by omega) (by omega)]; exact hI.1 q hq
  · rw [kg]; unfold clM; rw [xput_e]; rfl
  · rw [kg]; exact xput_i (by decide) (xput_i (by decide) (xput_i (by decide) xput_e))
  · rw [kg]; exact xput_i (by decide) (xput_i (by decide) xput_e)
  · rw [kg]; exact xput_i (by decide) xput_e
  · rw [kg]; exact xput_e
  · rw [bs_z (by omega) (by omega), k (g + 1) (by omega)]
    unfold clM
    refine xput_o (by omega) (xput_o (by omega) (xput_o (by omega) (xput_o (by omega) (xput_o (by omega) (xput_o (by omega) ?_)))))
    rw [xrow_e]
    exact xfill_in (Nat.zero_le q) (by omega)
  · rw [kg]; exact xput_i (by decide) (xput_i (by decide) (xput_i (by decide) (xput_i (by decide) (xput_i (by decide) xput_e))))
  · rw [kg]; exact xput_i (by decide) (xput_i (by decide) (xput_i (by decide) (xput_i (by decide) xput_e)))
  · rw [kg]; exact xput_i (by decide) (xput_i (by decide) (xput_i (by decide) (xput_i (by decide) xput_e)))
end
section
variable {tp : Nat → Nat} {n j : Nat} {t t1 : xT} {f : Nat → Int32} {q : xS}
theorem tr_stepJ (h : wrdP tp wTree (.inr (t, f))) (hj : j ≤ 6) (e : trI tp n (7 - j) (.inr (t, f)) = q) : trI tp n (7 - (j + 1)) (treR tp n (.inr (t, f))) = q := by
  rw [show 7 - j = (7 - (j + 1)) + 1 by omega, trI_y h] at e; exact e
theorem th_stepJ (h : wrdP tp wThing (.inr (t, f))) (hj : j ≤ 6) (e : thI tp n (7 - j) (.inr (t, f)) = q) : thI tp n (7 - (j + 1)) (thiR tp n (.inr (t, f))) = q := by
  rw [show 7 - j = (7 - (j + 1)) + 1 by omega, thI_y h] at e; exact e
end
theorem xRL_sw {nw sp : Nat} : xputR (xputR (xRL nw sp) 0 4 (some sp)) 0 5 (some nw) = xRL sp nw := by
  funext i k
  by_cases hi : i = 0
  · subst hi
    simp only [xputR, va_up, if_true]
    by_cases h5 : k = 5
    · subst h5; rfl
    · by_cases h4 : k = 4
      · subst h4; rfl
      · simp only [h5, h4, if_false]
        simp only [xRL, show ¬ (0 : Nat) = 307 by decide, if_false, if_true]
        rcases Nat.lt_or_ge k 12 with hk | hk
        · rcases (show k = 0 ∨ k = 1 ∨ k = 2 ∨ k = 3 ∨ k = 6 ∨ k = 7 ∨ k = 8 ∨ k = 9 ∨ k = 10 ∨ k = 11 by omega) with rfl | rfl | rfl | rfl | rfl | rfl | rfl | rfl | rfl | rfl <;> rfl
        · rw [List.getD_eq_getElem?_getD, List.getD_eq_getElem?_getD, List.getElem?_eq_none (by simpa using hk), List.getElem?_eq_none (by simpa using hk)]
  · have h1 : xputR (xputR (xRL nw sp) 0 4 (some sp)) 0 5 (some nw) i = xRL nw sp i := by rw [xputR_ne hi, xputR_ne hi]
    rw [h1]
    unfold xRL
    simp only [hi, if_false]
/-- what garden() leaves -/
def gaC (tp : Nat → Nat) (n : Nat) (f : Nat → Int32) (nw sp : Nat) (I : xM) : xP := fun v n' J R' => ∃ x, v = some (.int x) ∧ n' = 319 ∧
  (∀ o, o ≠ 0 → o ≠ 2 → (o < sp ∨ sp + 10 ≤ o) → J o = I o) ∧ J 2 1 = nI 0 ∧ BZ J sp ∧ (∀ j, (j = 6 ∨ j = 9 ∨ j = 12) ∨ J 0 j = I 0 j) ∧
  ((∃ e, psR tp n (.inr (lx tp n 0, bsF f 74)) = .inl e ∧ x = -1000100 - nI e.2 ∧ J 0 12 = nI e.1 ∧ J 0 6 = I 0 6 ∧ J 0 9 = I 0 9 ∧ R' = xRL nw sp) ∨
   ∃ t f1 T S F W, psR tp n (.inr (lx tp n 0, bsF f 74)) = .inr (t, f1) ∧ x = f1 0 ∧ J 0 12 = I 0 12 ∧ J 0 6 = nI 1 ∧ J 0 9 = nI 0 ∧ GX J sp f1 T S F W ∧ goodF f1 T S F W ∧ R' = xRL sp nw)
theorem gac_l {tp : Nat → Nat} {n : Nat} {f : Nat → Int32} {nw sp : Nat} {I K : xM} {e : Nat × Nat} (hs : 8 ≤ sp) (he : psR tp n (.inr (lx tp n 0, bsF f 74)) = .inl e) (h : cNO sp I K e) : gaC tp n f nw sp I (some (.int (-1000100 - nI e.2))) 319 (xput (xput K 2 1 (nI 0)) 0 12 (nI e.1)) (xRL nw sp) := by
  have k0 : K 0 = I 0 := h.1.1 0 (by decide) (by omega)
  refine ⟨_, rfl, rfl, fun o h0 h2 h3 => (xput_ne h0).trans ((xput_ne h2).trans (h.1.1 o h2 h3)), xput_o (by decide) xput_e, h.1.2.2.ext (fun i h1 h2 => (xput_ne (by omega)).trans (xput_ne (by omega))), fun j => ?_, Or.inl ⟨e, he, rfl, xput_e, xput_i (by decide) (xput_o (by decide) (congrFun k0 6)), xput_i (by decide) (xput_o (by decide) (congrFun k0 9)), rfl⟩⟩
  by_cases hj : j = 6 ∨ j = 9 ∨ j = 12
  · exact Or.inl hj
  · exact Or.inr (xput_i (by omega) (xput_o (by decide) (congrFun k0 j)))
theorem gac_r {tp : Nat → Nat} {n : Nat} {f f1 : Nat → Int32} {nw sp : Nat} {I K : xM} {t : xT} {x : Int32} (hs : 8 ≤ sp) (he : psR tp n (.inr (lx tp n 0, bsF f 74)) = .inr (t, f1)) (h : cOK tp n sp I K t f1) (hx : x = K sp 3) : gaC tp n f nw sp I (some (.int x)) 319 (xput (xput (xput K 2 1 (nI 0)) 0 6 (nI 1)) 0 9 (nI 0)) (xRL sp nw) := by
  have k0 : K 0 = I 0 := h.1.1 0 (by decide) (by omega)
  obtain ⟨T, S, F, W, hG, hgf⟩ := h.2.2.2.1
  have ex : ∀ i, sp ≤ i → i < sp + 10 → (xput (xput (xput K 2 1 (nI 0)) 0 6 (nI 1)) 0 9 (nI 0)) i = K i := fun i h1 h2 => (xput_ne (by omega)).trans ((xput_ne (by omega)).trans (xput_ne (by omega)))
  refine ⟨_, rfl, rfl, fun o h0 h2 h3 => (xput_ne h0).trans ((xput_ne h0).trans ((xput_ne h2).trans (h.1.1 o h2 h3))), xput_o (by decide) (xput_o (by decide) xput_e), h.1.2.2.ext ex, fun j => ?_, Or.inr ⟨t, f1, T, S, F, W, he, ?_, xput_i (by decide) (xput_i (by decide) (xput_o (by decide) (congrFun k0 12))), xput_i (by decide) xput_e, xput_e, hG.ext ex, hgf, rfl⟩⟩
  · by_cases hj : j = 6 ∨ j = 9 ∨ j = 12
    · exact Or.inl hj
    · exact Or.inr (xput_i (by omega) (xput_i (by omega) (xput_o (by decide) (congrFun k0 j))))
  · rw [hx, hG.tr, hgf.1.T0]
