/-! THE SCRIPT -/
def scr (X : xX) (Ln : Nat) (xs : Nat → Int32) : Prop := match X with
  | ((_, _, _, _, s, _, _, _, _, _), (_, _, _, A, B, _, _)) => va_X (B 5000000) Ln xs s s.heap ∧ B 5000000 < s.heap.size ∧ ¬ A (B 5000000)
section
variable {X : xX} {own : String} {cc : ByteArray} {nL lv kc ks n cs sl pc : Nat} {I : xM} {R : xR} {L : List (Nat × Value)} {st : List Value} {Ln : Nat} {xs : Nat → Int32}
theorem g_xld (hX : xOK X own cc nL lv kc ks) (hs : scr X Ln xs) (hLn : Ln ≤ 384) {i : Int32} (k : Nat) (hi : i = nI k) (hk : k < Ln) (hd : decode cc pc = .ok (.iaload, 1)) (kk : G X n cs sl I R (pc + 1) L (.int (xs k) :: st)) : G X n cs sl I R pc L (.int i :: .ref 5000000 :: st) := by
  obtain ⟨⟨p, l, e, Rm, s, m, args, below, meth, c'⟩, Q, D, cy, A, B, n0, nL'⟩ := X
  obtain ⟨hx, hb, hml, hnl, hown, hts, hK, hA, hE, -⟩ := hX
  obtain ⟨s1, s2, s3⟩ := hs
  subst hi
  intro ad H locs ls hS hl
  have he : ad 5000000 = B 5000000 := hS.2.2.2.2.1 _ (Or.inr (by omega))
  show W p l e Rm s m args below meth c' H locs cs sl Q (F0 m pc ls (.int (nI k) :: .ref (ad 5000000) :: st.map (xcv ad)))
  rw [he]
  refine va_sld hx hb s1 s2 s3 hS.2.2.1 (vp_in_nI hk (by omega)) hd ?_
  rw [nI_clamp (by omega)]
  exact kk ad H locs ls hS hl
theorem g_xln (hX : xOK X own cc nL lv kc ks) (hs : scr X Ln xs) (hd : decode cc pc = .ok (.arraylength, 1)) (kk : G X n cs sl I R (pc + 1) L (.int (nI Ln) :: st)) : G X n cs sl I R pc L (.ref 5000000 :: st) := by
  obtain ⟨⟨p, l, e, Rm, s, m, args, below, meth, c'⟩, Q, D, cy, A, B, n0, nL'⟩ := X
  obtain ⟨hx, hb, hml, hnl, hown, hts, hK, hA, hE, -⟩ := hX
  obtain ⟨s1, s2, s3⟩ := hs
  intro ad H locs ls hS hl
  have he : ad 5000000 = B 5000000 := hS.2.2.2.2.1 _ (Or.inr (by omega))
  show W p l e Rm s m args below meth c' H locs cs sl Q (F0 m pc ls (.ref (ad 5000000) :: st.map (xcv ad)))
  rw [he]
  exact va_slen hx hb s1 s2 s3 hS.2.2.1 hd (kk ad H locs ls hS hl)
variable {y5 y6 : MethodName} {b5 b6 : ByteArray} {m5 m6 np nw sp c i5 : Nat} {as stk : List Value}
/-- the program's call, in a pair -/
theorem g_p5 (hX : xOK X own cc nL 25 kc ks) (hP : PairS y5 b5 m5 y6 b6 m6 as I nw sp c) (hy : xMt y5 b5 m5 (some .int) np) (hv : xMv y5) (hlk : xLm own i5 y5) (hyC : y5.cls = RX5) (hlen : as.length = np) (hd : decode cc pc = .ok (.invokevirtual i5, 3)) (hst : stk = as.reverse ++ .ref 0 :: st) (hroom : (st.map fun v => v.category).sum ≤ 8) (hcs : cs ≤ kc) (hsl : sl ≤ ks)
    (kk : ∀ (r : Int32) (J : xM) (nw' sp' lv6 : Nat) (Post6 : xP), lv6 ≤ 20 → (∀ l, xC l lv6 0 0 y6 b6 m6 (some .int) 319 (.ref 307 :: as) J (xRL nw' sp') Post6) → (∀ v6 n6 K R6, Post6 v6 n6 K R6 → v6 = some (.int r) ∧ n6 = 319 ∧ R6 = xRL nw' sp' ∧ LR K nw' sp' (c + 1)) → G X 319 cs sl J (xRL nw' sp') (pc + 3) L (.int r :: st)) : G X 319 cs sl I (xRL nw sp) pc L stk := by
  obtain ⟨lv5, Post5, hl5, h5, hq⟩ := hP
  refine g_callV (mc := 0) (ms := 0) hX h5 hy hv hlk (by decide) (by decide) xCl5 hyC hlen hd hst (by omega) hroom hcs hsl (fun v n' I' R' hp => ?_)
  obtain ⟨rfl, r, nw', sp', rfl, rfl, lv6, Post6, hl6, h6, hq6⟩ := hq v n' I' R' hp
  exact ⟨rfl, kk r I' nw' sp' lv6 Post6 hl6 h6 hq6⟩
/-- the reference's call, in a pair -/
theorem g_p6 (hX : xOK X own cc nL 25 kc ks) {r : Int32} {lv6 : Nat} {Post6 : xP} (hl6 : lv6 ≤ 20) (h6 : ∀ l, xC l lv6 0 0 y6 b6 m6 (some .int) 319 (.ref 307 :: as) I (xRL nw sp) Post6) (hq6 : ∀ v6 n6 K R6, Post6 v6 n6 K R6 → v6 = some (.int r) ∧ n6 = 319 ∧ R6 = xRL nw sp ∧ LR K nw sp (c + 1)) (hy : xMt y6 b6 m6 (some .int) np) (hv : xMv y6) (hlk : xLm own i5 y6) (hyC : y6.cls = RX6) (hlen : as.length = np) (hd : decode cc pc = .ok (.invokevirtual i5, 3)) (hst : stk = as.reverse ++ .ref 307 :: st) (hroom : (st.map fun v => v.category).sum ≤ 8) (hcs : cs ≤ kc) (hsl : sl ≤ ks)
    (kk : ∀ K, LR K nw sp (c + 1) → G X 319 cs sl K (xRL nw sp) (pc + 3) L (.int r :: st)) : G X 319 cs sl I (xRL nw sp) pc L stk := by
  refine g_callV (mc := 0) (ms := 0) hX h6 hy hv hlk (by decide) (by decide) xCl6 hyC hlen hd hst (by omega) hroom hcs hsl (fun v n' I' R' hp => ?_)
  obtain ⟨rfl, rfl, rfl, hL⟩ := hq6 v n' I' R' hp
  exact ⟨rfl, kk I' hL⟩
end
