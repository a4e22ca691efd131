/-! TEXTS: their rows -/
def wlist (k : Nat) : List Nat := ([wGround, wLake, wTree, wAsh, wYew, wOak, wHedge, wFalse, wThing, wShow, wHide] : List (List Nat)).getD k []
def wln (k : Nat) : Nat := (wlist k).length
def wby (k i : Nat) : Nat := (wlist k).getD i 0
theorem wln_e : ∀ k, k < 11 → nI (xsl.getD k 0) = nI (wln k) ∧ xsl.getD k 0 = wln k := by decide +kernel
theorem wby_e : ∀ k, k < 11 → ∀ i, i < wln k → (xsb.getD k []).getD i 0 = nI (wby k i) ∧ wby k i < 128 := by decide +kernel
theorem wln_1 : ∀ k, k < 11 → 1 ≤ wln k ∧ wln k < 8 := by decide +kernel
theorem and255 : ∀ b, b < 128 → nI b &&& nI 255 = nI b ∧ ((nI b).toUInt32 % 65536).toInt32 = nI b := by decide +kernel
theorem sh0 (x : Int32) : x >>> (nI 0 &&& 31) = x := by
  rw [show nI 0 &&& 31 = (0 : Int32) from by decide]
  exact Int32.shiftRight_zero
theorem kJ0_9 : Cond.fieldLink RJ0 9 RJ0 "value" "[B" ∈ xgw := xgw_in (List.mem_append_right _ (List.mem_of_getElem? (i := 1097) (by decide +kernel))) (by decide +kernel)
theorem kJ0_15 : Cond.fieldLink RJ0 15 RJ0 "coder" "B" ∈ xgw := xgw_in (List.mem_append_right _ (List.mem_of_getElem? (i := 1098) (by decide +kernel))) (by decide +kernel)
theorem kJ0_38 : Cond.fieldLink RJ0 38 RJ0 "COMPACT_STRINGS" "Z" ∈ xgw := xgw_in (List.mem_append_right _ (List.mem_of_getElem? (i := 344) (by decide +kernel))) (by decide +kernel)
theorem kJ0_1053 : Cond.fieldLink RJ0 1053 RJ3 "SIOOBE_FORMATTER" "Ljava/util/function/BiFunction;" ∈ xgw := xgw_in (List.mem_append_right _ (List.mem_of_getElem? (i := 360) (by decide +kernel))) (by decide +kernel)
section
variable {X : xX} {own : String} {cc : ByteArray} {nL lv kc ks n cs sl pc index : Nat} {I J : xM} {R : xR} {L : List (Nat × Value)} {st stk : List Value}
theorem g_ldcS (k : Nat) (hX : xOK X own cc nL lv kc ks) (ho : own = RX1) (hk : k < 11) (hd : decode cc pc = .ok (.ldc index, 2)) (hi : xsi k = index) (kk : G X n cs sl I R (pc + 2) L (.ref (2000000 + k) :: st)) : G X n cs sl I R pc L st := by
  subst ho; subst hi
  obtain ⟨⟨p, l, e, Rm, s, m, args, below, meth, c'⟩, Q, D, cy, A, B, n0, nL'⟩ := X
  obtain ⟨hx, hb, hml, hnl, hown, hts, hK, hA, hE, -⟩ := hX
  intro ad H locs ls hS hl
  have he : ad (2000000 + k) = B (2000000 + k) := hS.2.2.2.2.1 _ (Or.inr (by omega))
  refine va_ldcS hx hb hown (hE.2.1 k hk) hd ?_
  rw [← he]
  exact kk ad H locs ls hS hl
theorem g_sval (k : Nat) (hX : xOK X own cc nL lv kc ks) (hk : k < 11) (hlk : Cond.fieldLink own index RJ0 "value" "[B" ∈ xgw) (hd : decode cc pc = .ok (.getfield index, 3)) (kk : G X n cs sl I R (pc + 3) L (.ref (3000000 + k) :: st)) : G X n cs sl I R pc L (.ref (2000000 + k) :: st) := by
  obtain ⟨⟨p, l, e, Rm, s, m, args, below, meth, c'⟩, Q, D, cy, A, B, n0, nL'⟩ := X
  obtain ⟨hx, hb, hml, hnl, hown, hts, hK, hA, hE, -⟩ := hX
  intro ad H locs ls hS hl
  have he : ad (2000000 + k) = B (2000000 + k) := hS.2.2.2.2.1 _ (Or.inr (by omega))
  have he2 : ad (3000000 + k) = B (3000000 + k) := hS.2.2.2.2.1 _ (Or.inr (by omega))
  have w : W p l e Rm s m args below meth c' H locs cs sl Q (F0 m (pc + 3) ls (.ref (ad (3000000 + k)) :: st.map (xcv ad))) := kk ad H locs ls hS hl
  show W p l e Rm s m args below meth c' H locs cs sl Q (F0 m pc ls (.ref (ad (2000000 + k)) :: st.map (xcv ad)))
  rw [he]
  exact vk_getf hx hb (hE.2.2.1.1 k hk).2.2.1 hS.2.2.1 hown (hts _ hlk) (fun _ z => z) hd (by show W p l e Rm s m args below meth c' H locs cs sl Q (F0 m (pc + 3) ls (.ref (B (3000000 + k)) :: st.map (xcv ad))); rw [← he2]; exact w)
theorem g_scod (k : Nat) (hX : xOK X own cc nL lv kc ks) (hk : k < 11) (hlk : Cond.fieldLink own index RJ0 "coder" "B" ∈ xgw) (hd : decode cc pc = .ok (.getfield index, 3)) (kk : G X n cs sl I R (pc + 3) L (.int (nI 0) :: st)) : G X n cs sl I R pc L (.ref (2000000 + k) :: st) := by
  obtain ⟨⟨p, l, e, Rm, s, m, args, below, meth, c'⟩, Q, D, cy, A, B, n0, nL'⟩ := X
  obtain ⟨hx, hb, hml, hnl, hown, hts, hK, hA, hE, -⟩ := hX
  intro ad H locs ls hS hl
  have he : ad (2000000 + k) = B (2000000 + k) := hS.2.2.2.2.1 _ (Or.inr (by omega))
  show W p l e Rm s m args below meth c' H locs cs sl Q (F0 m pc ls (.ref (ad (2000000 + k)) :: st.map (xcv ad)))
  rw [he]
  exact vk_getf hx hb (hE.2.2.1.1 k hk).2.1 hS.2.2.1 hown (hts _ hlk) (fun _ z => z) hd (kk ad H locs ls hS hl)
theorem g_slen (k : Nat) (hX : xOK X own cc nL lv kc ks) (hk : k < 11) (hd : decode cc pc = .ok (.arraylength, 1)) (kk : G X n cs sl I R (pc + 1) L (.int (nI (wln k)) :: st)) : G X n cs sl I R pc L (.ref (3000000 + k) :: st) := by
  obtain ⟨⟨p, l, e, Rm, s, m, args, below, meth, c'⟩, Q, D, cy, A, B, n0, nL'⟩ := X
  obtain ⟨hx, hb, hml, hnl, hown, hts, hK, hA, hE, -⟩ := hX
  intro ad H locs ls hS hl
  have he : ad (3000000 + k) = B (3000000 + k) := hS.2.2.2.2.1 _ (Or.inr (by omega))
  show W p l e Rm s m args below meth c' H locs cs sl Q (F0 m pc ls (.ref (ad (3000000 + k)) :: st.map (xcv ad)))
  rw [he]
  exact va_tlen hx hb (hE.2.2.1.1 k hk).2.2.2 hS.2.2.1 (wln_e k hk).1 hd (kk ad H locs ls hS hl)
theorem g_sbald (k : Nat) (hX : xOK X own cc nL lv kc ks) (hk : k < 11) (j : Nat) {i : Int32} (hi : i = nI j) (hj : j < wln k) (hd : decode cc pc = .ok (.baload, 1)) (kk : G X n cs sl I R (pc + 1) L (.int (nI (wby k j)) :: st)) : G X n cs sl I R pc L (.int i :: .ref (3000000 + k) :: st) := by
  obtain ⟨⟨p, l, e, Rm, s, m, args, below, meth, c'⟩, Q, D, cy, A, B, n0, nL'⟩ := X
  obtain ⟨hx, hb, hml, hnl, hown, hts, hK, hA, hE, -⟩ := hX
  subst hi
  intro ad H locs ls hS hl
  have he : ad (3000000 + k) = B (3000000 + k) := hS.2.2.2.2.1 _ (Or.inr (by omega))
  have hw := wln_1 k hk
  show W p l e Rm s m args below meth c' H locs cs sl Q (F0 m pc ls (.int (nI j) :: .ref (ad (3000000 + k)) :: st.map (xcv ad)))
  rw [he]
  refine va_tb hx hb (hE.2.2.1.1 k hk).2.2.2 hS.2.2.1 (vp_in_nI (by rw [(wln_e k hk).2]; exact hj) (by rw [(wln_e k hk).2]; omega)) (v := .int (nI (wby k j))) ?_ hd (kk ad H locs ls hS hl)
  rw [nI_clamp (by omega), (wby_e k hk j hj).1]
theorem g_scmp (hX : xOK X own cc nL lv kc ks) (hlk : Cond.fieldLink own index RJ0 "COMPACT_STRINGS" "Z" ∈ xgw) (hd : decode cc pc = .ok (.getstatic index, 3)) (kk : G X n cs sl I R (pc + 3) L (.int (nI 1) :: st)) : G X n cs sl I R pc L st := by
  obtain ⟨⟨p, l, e, Rm, s, m, args, below, meth, c'⟩, Q, D, cy, A, B, n0, nL'⟩ := X
  obtain ⟨hx, hb, hml, hnl, hown, hts, hK, hA, hE, -⟩ := hX
  intro ad H locs ls hS hl
  exact va_gets hx hb hE.2.2.2.1 hS.2.2.1 hown (hts _ hlk) (fun _ z => z) hd (kk ad H locs ls hS hl)
theorem g_sfor (hX : xOK X own cc nL lv kc ks) (hlk : Cond.fieldLink own index RJ3 "SIOOBE_FORMATTER" "Ljava/util/function/BiFunction;" ∈ xgw) (hd : decode cc pc = .ok (.getstatic index, 3)) (k1 : G X n cs sl I R (pc + 3) L (.null :: st)) (k2 : G X n cs sl I R (pc + 3) L (.ref 4000000 :: st)) : G X n cs sl I R pc L st := by
  obtain ⟨⟨p, l, e, Rm, s, m, args, below, meth, c'⟩, Q, D, cy, A, B, n0, nL'⟩ := X
  obtain ⟨hx, hb, hml, hnl, hown, hts, hK, hA, hE, -⟩ := hX
  intro ad H locs ls hS hl
  have he : ad 4000000 = B 4000000 := hS.2.2.2.2.1 _ (Or.inr (by omega))
  rcases hE.2.2.2.2 with z | z
  · exact va_gets hx hb z hS.2.2.1 hown (hts _ hlk) (fun _ z => z) hd (k1 ad H locs ls hS hl)
  · have w : W p l e Rm s m args below meth c' H locs cs sl Q (F0 m (pc + 3) ls (.ref (ad 4000000) :: st.map (xcv ad))) := k2 ad H locs ls hS hl
    exact va_gets hx hb z hS.2.2.1 hown (hts _ hlk) (fun _ z => z) hd (by rw [← he]; exact w)
end
section
variable {X : xX} {own : String} {cc : ByteArray} {nL lv kc ks n cs sl pc : Nat} {I J : xM} {R : xR} {L : List (Nat × Value)} {st stk : List Value}
variable {y : MethodName} {b : ByteArray} {maxL lvc mc ms np index : Nat} {ret : Option FieldType} {Post : xP} {as : List Value}
/-- a call on a text -/
theorem g_callT (k : Nat) (hX : xOK X own cc nL lv kc ks) (hM : ∀ l, xC l lvc mc ms y b maxL ret n (.ref (2000000 + k) :: as) I R Post) (hy : xMt y b maxL ret np) (hv : xMv y) (hlk : xLm own index y) (hk : k < 11) (hyC : y.cls = RJ0) (hlen : as.length = np) (hd : decode cc pc = .ok (.invokevirtual index, 3)) (hst : stk = as.reverse ++ .ref (2000000 + k) :: st) (hlv : lvc + 1 ≤ lv) (hroom : (st.map fun v => v.category).sum ≤ 8) (hcs : cs + mc ≤ kc) (hsl : sl + ms ≤ ks)
    (kk : ∀ (v : Option Value) (n' : Nat) (I' : xM) (R' : xR), Post v n' I' R' → n' = n ∧ G X n (cs + mc) (sl + ms) I' R' (pc + 3) L (v.toList ++ st)) : G X n cs sl I R pc L stk := by
  subst hst
  have hcb := fun h => xcb (X := X) (lvc := lvc) (mc := mc) (ms := ms) (index := index) hX hy h hlv
  have hcn := fun host h => xcn (X := X) (lvc := lvc) (mc := mc) (ms := ms) (index := index) (host := host) hX hy h hlv
  obtain ⟨⟨p, l, e, Rm, s, m, args, below, meth, c'⟩, Q, D, cy, A, B, n0, nL'⟩ := X
  obtain ⟨hx, hb, hml, rfl, hown, hts, hK, hA, hE, hfr, hlo, hce, hsl2⟩ := hX
  intro ad H locs ls hS hl
  have hed : ad (2000000 + k) = B (2000000 + k) := hS.2.2.2.2.1 _ (Or.inr (by omega))
  have hrv : ∃ cell : Cell, H[ad (2000000 + k)]? = some cell ∧ cell.vm.isStatics = false ∧ s.vm.findClass RJ0 = some cell.cls := by
    rw [hed]
    exact vk_recv (i := k) hE.2.2.1 hk hS.2.2.1
  have hp : PreV s H RJ0 (ad (2000000 + k)) (va_Pc ((Value.ref (2000000 + k) :: as).map (xcv ad)) (xPre D cy ad n I R H.size)) (as.map (xcv ad)) :=
    ⟨xPre_blind, hrv, fun U hU hW => ⟨rfl, xPre_of hK hE hA hS hU hW⟩⟩
  have hsel : (Cond.selects RJ0 y y).before args s = true := by rw [← hyC]; exact hts _ hv.2
  have hstk : ((as.reverse ++ Value.ref (2000000 + k) :: st).map (xcv ad)) = (as.map (xcv ad)).reverse ++ .ref (ad (2000000 + k)) :: st.map (xcv ad) := by simp [xcv]
  have hrm : ((st.map (xcv ad)).map fun v => v.category).sum ≤ 8 := by
    rw [List.map_map]
    exact Nat.le_trans (Nat.le_of_eq (by congr 1; apply List.map_congr_left; intro v _; exact xcv_cat ad v)) hroom
  have hrun : va_Run p l e Rm s m args below meth c' H locs cs sl mc ms (F0 m pc ls (List.map (xcv ad) (as.reverse ++ Value.ref (2000000 + k) :: st))) (st.map (xcv ad)) (xQ D cy (va_A (xws cy ad I R n) H.size) n ad Post ((Value.ref (2000000 + k) :: as).map (xcv ad)).toArray) (va_A (xws cy ad I R n) H.size) := by
    rcases hlk with h | ⟨host, h⟩
    · exact va_runV (As := as.map (xcv ad)) (rest := st.map (xcv ad)) ⟨hx, hb, hml, hown, hts⟩ (hM l D cy ad H.size) ⟨hcb h, hts _ hv.1, hsel⟩ hp rfl (by rw [List.length_map]; exact hlen) hl.1 hstk (lv_room hrm) hd ⟨by omega, by omega⟩
    · exact va_runVN (As := as.map (xcv ad)) (rest := st.map (xcv ad)) ⟨hx, hb, hml, hown, hts⟩ (hM l D cy ad H.size) ⟨hcn host h, hts _ hv.1, hsel⟩ hp rfl (by rw [List.length_map]; exact hlen) hl.1 hstk (lv_room hrm) hd ⟨by omega, by omega⟩
  have hfree := xA_free hS.2.1 hS.2.2.1 hA
  refine x_call hrun hS.2.2.1 (fun q _ h => hfree q h) hfree (fun v ad' n' I' R' H1 locs1 hpost hP1 hD1 hag hz hS1 => ?_)
  obtain ⟨e1, w⟩ := kk v n' I' R' hpost
  subst e1
  have e2 : ad' = ad := hag.2.2 rfl
  subst e2
  have w2 := w ad' H1 locs1 ls ⟨hP1, xD_same hS.2.1, hS1, hS.2.2.2⟩ hl
  cases v <;> exact w2
theorem g_callTi (k : Nat) (hX : xOK X own cc nL lv kc ks) {e : Int32} (hM : ∀ l, xC l lvc 0 0 y b maxL ret n (.ref (2000000 + k) :: as) I R (xpI e n J R)) (hy : xMt y b maxL ret np) (hv : xMv y) (hlk : xLm own index y) (hk : k < 11) (hyC : y.cls = RJ0) (hlen : as.length = np) (hd : decode cc pc = .ok (.invokevirtual index, 3)) (hst : stk = as.reverse ++ .ref (2000000 + k) :: st) (hlv : lvc + 1 ≤ lv) (hroom : (st.map fun v => v.category).sum ≤ 8) (hcs : cs ≤ kc) (hsl : sl ≤ ks)
    (kk : G X n cs sl J R (pc + 3) L (.int e :: st)) : G X n cs sl I R pc L stk := by
  refine g_callT k hX hM hy hv hlk hk hyC hlen hd hst hlv hroom hcs hsl (fun v n' I' R' h => ?_)
  obtain ⟨rfl, rfl, rfl, rfl⟩ := h
  exact ⟨rfl, kk⟩
end
