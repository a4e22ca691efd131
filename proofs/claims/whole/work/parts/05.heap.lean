/-- what is known of an own kind of objects -/
def xCl (c : Nat) (C : String) (T : u_T) (N : Nat) (ty : Nat → FieldType) : Prop :=
  vwCl[c]? = some (C, T, N) ∧ c < 7 ∧ xnf c = N ∧ (∀ w ∈ u_ws C T N, w ∈ xgw) ∧ (∀ k, k < N → parseFieldDescriptor (T k).2.2.1 = some (ty k)) ∧ (∀ a, a < N → ∀ b, b < N → a ≠ b → (T a).2.1 ≠ (T b).2.1) ∧ (∀ k, k < N → (T k).1 = C)
theorem xin_of {ws : List Cond} (h1 : ∀ w ∈ ws, w ∈ lw_tbl) (h2 : ws.all goodWord = true) : ∀ w ∈ ws, w ∈ xgw := fun w h => xgw_in (h1 w h) (List.all_eq_true.mp h2 w h)
theorem xCl0 : xCl 0 RX0 TX0 15 tyX0 := ⟨rfl, by decide, rfl, xin_of (by decide +kernel) (by decide +kernel), tyX0_ok, nmX0, by decide +kernel⟩
theorem xCl1 : xCl 1 RX1 TX1 8 tyX1 := ⟨rfl, by decide, rfl, xin_of (by decide +kernel) (by decide +kernel), tyX1_ok, nmX1, by decide +kernel⟩
theorem xCl2 : xCl 2 RX2 TX2 4 tyX2 := ⟨rfl, by decide, rfl, xin_of (by decide +kernel) (by decide +kernel), tyX2_ok, nmX2, by decide +kernel⟩
theorem xCl3 : xCl 3 RX3 TX3 1 tyX3 := ⟨rfl, by decide, rfl, xin_of (by decide +kernel) (by decide +kernel), tyX3_ok, nmX3, by decide +kernel⟩
theorem xCl4 : xCl 4 RX4 TX4 2 tyX4 := ⟨rfl, by decide, rfl, xin_of (by decide +kernel) (by decide +kernel), tyX4_ok, nmX4, by decide +kernel⟩
theorem xCl5 : xCl 5 RX5 TX5 14 tyX5 := ⟨rfl, by decide, rfl, xin_of (by decide +kernel) (by decide +kernel), tyX5_ok, nmX5, by decide +kernel⟩
theorem xCl6 : xCl 6 RX6 TX6 25 tyX6 := ⟨rfl, by decide, rfl, xin_of (by decide +kernel) (by decide +kernel), tyX6_ok, nmX6, by decide +kernel⟩
/-- a link to a field, to a method -/
def xLk (own : String) (index : Nat) (T : u_T) (k : Nat) : Prop := Cond.fieldLink own index (T k).1 (T k).2.1 (T k).2.2.1 ∈ xgw ∨ ∃ host, Cond.fieldLinkNest own index (T k).1 (T k).2.1 (T k).2.2.1 host ∈ xnw
def xLm (own : String) (index : Nat) (y : MethodName) : Prop := Cond.methodLink own index y ∈ xgw ∨ ∃ host, Cond.methodLinkNest own index y host ∈ xnw
def xMt (y : MethodName) (b : ByteArray) (maxL : Nat) (ret : Option FieldType) (np : Nat) : Prop :=
  Cond.code y b maxL ret ∈ xgw ∧ Cond.initialized y.cls ∈ xgw ∧ (y.cls ≠ "java/lang/invoke/MethodHandle" ∧ y.cls ≠ "java/lang/invoke/VarHandle" ∧ (parseMethodDescriptor y.desc).map (fun d => d.parameters.length) = some np) ∧ maxL ≤ 45
def xMv (y : MethodName) : Prop := Cond.instanceMethod y ∈ xgw ∧ Cond.selects y.cls y y ∈ xgw
theorem xN1_le : ∀ i, i < 47 → xN1.getD i 0 ≤ 1776 := by decide +kernel
theorem xN2_le : ∀ i, i < 10 → xN2.getD i 0 ≤ 1776 := by decide +kernel
theorem xN3_le : ∀ i, i < 12 → xN3.getD i 0 ≤ 1776 := by decide +kernel
theorem xN_le (i : Nat) : xN i ≤ 1776 := by
  unfold xN
  split
  · exact xN1_le i (by omega)
  · split
    · exact xN2_le _ (Nat.mod_lt _ (by decide))
    · by_cases h : i - 307 < 12
      · exact xN3_le _ h
      · rw [List.getD_eq_getElem?_getD, List.getElem?_eq_none (by simp [xN3]; omega)]; simp
theorem xN_lt (i : Nat) : xN i < 2 ^ 31 := Nat.lt_of_le_of_lt (xN_le i) (by decide)
theorem xput_ne {I : xM} {i k j : Nat} {v : Int32} (h : j ≠ i) : xput I i k v j = I j := va_up_ne _ _ h
theorem xput_self {I : xM} {i k : Nat} {v : Int32} : xput I i k v i = upd (I i) k v := va_up_self _ _ _
theorem xputR_ne {R : xR} {i k j : Nat} {v : Option Nat} (h : j ≠ i) : xputR R i k v j = R j := va_up_ne _ _ h
theorem xputR_self {R : xR} {i k : Nat} {v : Option Nat} : xputR R i k v i = va_up (R i) k v := va_up_self _ _ _
theorem xws_putI {cy : Nat → ClassId} {ad : Nat → Nat} {I : xM} {R : xR} {n i c k : Nat} {v : Int32} (hn : i < n) (hc : xK i = c) (h7 : c < 7) (hk : k < xnf c) (hir : xir c k = false) :
    (xws cy ad I R n).set i (ad i, .inr (c, (xfs ad (I i) (R i) c).set k (.int v))) = xws cy ad (xput I i k v) R n := by
  refine xws_set hn (fun j hj => xput_ne hj) (fun _ _ => rfl) ?_
  rw [xe_obj hc h7, xput_self, xfs_set (f' := upd (I i) k v) (r' := R i) hk (fun j hj => by simp [upd, hj]) (fun _ _ => rfl) (by simp [xval, hir, upd])]
theorem xws_putR {cy : Nat → ClassId} {ad : Nat → Nat} {I : xM} {R : xR} {n i c k j : Nat} (hn : i < n) (hc : xK i = c) (h7 : c < 7) (hk : k < xnf c) (hir : xir c k = true) :
    (xws cy ad I R n).set i (ad i, .inr (c, (xfs ad (I i) (R i) c).set k (.ref (ad j)))) = xws cy ad I (xputR R i k (some j)) n := by
  refine xws_set hn (fun _ _ => rfl) (fun j hj => xputR_ne hj) ?_
  rw [xe_obj hc h7, xputR_self, xfs_set (f' := I i) (r' := va_up (R i) k (some j)) hk (fun _ _ => rfl) (fun j hj => va_up_ne _ _ hj) (by simp [xval, hir, va_up, xrf, va_rf])]
theorem xws_row {cy : Nat → ClassId} {ad : Nat → Nat} {I : xM} {R : xR} {n i c : Nat} {f : Nat → Int32} (hn : i < n) (hc : xK i = c) (h7 : ¬ c < 7) (h10 : c < 10) :
    (xws cy ad I R n).set i (ad i, .inl (cy c, xN i, .inl f)) = xws cy ad (xrow I i f) R n := by
  refine xws_set hn (fun j hj => va_up_ne _ _ hj) (fun _ _ => rfl) ?_
  rw [xe_arr hc h7 h10, xrow, va_up_self]
section
variable {X : xX} {own : String} {cc : ByteArray} {nL lv kc ks n cs sl pc : Nat} {I : xM} {R : xR} {L : List (Nat × Value)} {st : List Value}
theorem g_getI (hX : xOK X own cc nL lv kc ks) {i c N index : Nat} {C : String} {T : u_T} {ty : Nat → FieldType} {v : Int32} (hn : i < n) (hc : xK i = c) (hC : xCl c C T N ty) (k : Nat) (hk : k < N) (hir : xir c k = false) (hlk : xLk own index T k) (hd : decode cc pc = .ok (.getfield index, 3)) (hv : I i k = v)
    (kk : G X n cs sl I R (pc + 3) L (.int v :: st)) : G X n cs sl I R pc L (.ref i :: st) := by
  obtain ⟨⟨p, l, e, Rm, s, m, args, below, meth, c'⟩, Q, D, cy, A, B, n0, nL'⟩ := X
  obtain ⟨hx, hb, hml, hnl, hown, hts, hK, hA, hE, -⟩ := hX
  obtain ⟨q1, q2, q3, q4, q5, q6, q7⟩ := hC
  intro ad H locs ls hS hl
  have he : (xws cy ad I R n)[i]? = some (ad i, .inr (c, xfs ad (I i) (R i) c)) := by rw [xws_get hn, xe_obj hc q2]
  have hv2 : (xfs ad (I i) (R i) c)[k]? = some (.int v) := by rw [xfs_get (by omega)]; simp [xval, hir, hv]
  rcases hlk with h | ⟨host, h⟩
  · exact va_get hx hb hts q4 hown hK hS.1 i he q1 k hk (hts _ h) (fun _ z => z) hv2 hd (kk ad H locs ls hS hl)
  · exact va_getN hx hb hts q4 hown hK hS.1 i he q1 k hk ((hE.1 _ h).use (by rfl)) (fun _ z => z) hv2 hd (kk ad H locs ls hS hl)
theorem g_getR (hX : xOK X own cc nL lv kc ks) {i c N index : Nat} {C : String} {T : u_T} {ty : Nat → FieldType} {j : Nat} (hn : i < n) (hc : xK i = c) (hC : xCl c C T N ty) (k : Nat) (hk : k < N) (hir : xir c k = true) (hlk : xLk own index T k) (hd : decode cc pc = .ok (.getfield index, 3)) (hv : R i k = some j)
    (kk : G X n cs sl I R (pc + 3) L (.ref j :: st)) : G X n cs sl I R pc L (.ref i :: st) := by
  obtain ⟨⟨p, l, e, Rm, s, m, args, below, meth, c'⟩, Q, D, cy, A, B, n0, nL'⟩ := X
  obtain ⟨hx, hb, hml, hnl, hown, hts, hK, hA, hE, -⟩ := hX
  obtain ⟨q1, q2, q3, q4, q5, q6, q7⟩ := hC
  intro ad H locs ls hS hl
  have he : (xws cy ad I R n)[i]? = some (ad i, .inr (c, xfs ad (I i) (R i) c)) := by rw [xws_get hn, xe_obj hc q2]
  have hv2 : (xfs ad (I i) (R i) c)[k]? = some (.ref (ad j)) := by rw [xfs_get (by omega)]; simp [xval, hir, hv, xrf, va_rf]
  rcases hlk with h | ⟨host, h⟩
  · exact va_get hx hb hts q4 hown hK hS.1 i he q1 k hk (hts _ h) (fun _ z => z) hv2 hd (kk ad H locs ls hS hl)
  · exact va_getN hx hb hts q4 hown hK hS.1 i he q1 k hk ((hE.1 _ h).use (by rfl)) (fun _ z => z) hv2 hd (kk ad H locs ls hS hl)
theorem g_putI (hX : xOK X own cc nL lv kc ks) {i c N index : Nat} {C : String} {T : u_T} {ty : Nat → FieldType} {v : Int32} (hn : i < n) (hc : xK i = c) (hC : xCl c C T N ty) (k : Nat) (hk : k < N) (hir : xir c k = false) (hfin : (T k).2.2.2 = false) (hlk : xLk own index T k) (hd : decode cc pc = .ok (.putfield index, 3)) (hf1 : narrow (ty k) (.int v) = .int v) (hf2 : fits (ty k) (.int v) = true)
    (kk : G X n cs sl (xput I i k v) R (pc + 3) L st) : G X n cs sl I R pc L (.int v :: .ref i :: st) := by
  obtain ⟨⟨p, l, e, Rm, s, m, args, below, meth, c'⟩, Q, D, cy, A, B, n0, nL'⟩ := X
  obtain ⟨hx, hb, hml, hnl, hown, hts, hK, hA, hE, -⟩ := hX
  obtain ⟨q1, q2, q3, q4, q5, q6, q7⟩ := hC
  intro ad H locs ls hS hl
  obtain ⟨hP, hD, hSS, hAg⟩ := hS
  have he : (xws cy ad I R n)[i]? = some (ad i, .inr (c, xfs ad (I i) (R i) c)) := by rw [xws_get hn, xe_obj hc q2]
  have hkk : ∀ (H1 : Heap) (locs1 : List Loc), va_P D vwCl ((xws cy ad I R n).set i (ad i, .inr (c, (xfs ad (I i) (R i) c).set k (.int v)))) H1 → va_D A ((xws cy ad I R n).set i (ad i, .inr (c, (xfs ad (I i) (R i) c).set k (.int v)))) → va_S A s.heap H1 locs1 → W p l e Rm s m args below meth c' H1 locs1 cs sl Q (F0 m (pc + 3) ls (st.map (xcv ad))) := by
    intro H1 locs1 h1 h2 h3
    rw [xws_putI hn hc q2 (by omega) hir] at h1 h2
    exact kk ad H1 locs1 ls ⟨h1, h2, h3, hAg⟩ hl
  rcases hlk with h | ⟨host, h⟩
  · exact va_put hx hb hts q4 ty q5 q6 hown hK hP hD hSS i he q1 k hk (hts _ h) (fun _ z => z) hfin (q5 k hk) hf1 hf2 (by rw [xfs_len]; omega) hd hkk
  · exact va_putN hx hb hts q4 ty q5 q6 hown hK hP hD hSS i he q1 k hk ((hE.1 _ h).use (by rfl)) (fun _ z => z) hfin (q5 k hk) hf1 hf2 (by rw [xfs_len]; omega) hd hkk
theorem g_putR (hX : xOK X own cc nL lv kc ks) {i c N index : Nat} {C : String} {T : u_T} {ty : Nat → FieldType} {j : Nat} (hn : i < n) (hc : xK i = c) (hC : xCl c C T N ty) (k : Nat) (hk : k < N) (hir : xir c k = true) (hfin : (T k).2.2.2 = false) (hlk : xLk own index T k) (hd : decode cc pc = .ok (.putfield index, 3)) (hf1 : ∀ a : Nat, narrow (ty k) (.ref a) = .ref a) (hf2 : ∀ a : Nat, fits (ty k) (.ref a) = true)
    (kk : G X n cs sl I (xputR R i k (some j)) (pc + 3) L st) : G X n cs sl I R pc L (.ref j :: .ref i :: st) := by
  obtain ⟨⟨p, l, e, Rm, s, m, args, below, meth, c'⟩, Q, D, cy, A, B, n0, nL'⟩ := X
  obtain ⟨hx, hb, hml, hnl, hown, hts, hK, hA, hE, -⟩ := hX
  obtain ⟨q1, q2, q3, q4, q5, q6, q7⟩ := hC
  intro ad H locs ls hS hl
  obtain ⟨hP, hD, hSS, hAg⟩ := hS
  have he : (xws cy ad I R n)[i]? = some (ad i, .inr (c, xfs ad (I i) (R i) c)) := by rw [xws_get hn, xe_obj hc q2]
  have hkk : ∀ (H1 : Heap) (locs1 : List Loc), va_P D vwCl ((xws cy ad I R n).set i (ad i, .inr (c, (xfs ad (I i) (R i) c).set k (.ref (ad j))))) H1 → va_D A ((xws cy ad I R n).set i (ad i, .inr (c, (xfs ad (I i) (R i) c).set k (.ref (ad j))))) → va_S A s.heap H1 locs1 → W p l e Rm s m args below meth c' H1 locs1 cs sl Q (F0 m (pc + 3) ls (st.map (xcv ad))) := by
    intro H1 locs1 h1 h2 h3
    rw [xws_putR hn hc q2 (by omega) hir] at h1 h2
    exact kk ad H1 locs1 ls ⟨h1, h2, h3, hAg⟩ hl
  rcases hlk with h | ⟨host, h⟩
  · exact va_put hx hb hts q4 ty q5 q6 hown hK hP hD hSS i he q1 k hk (hts _ h) (fun _ z => z) hfin (q5 k hk) (hf1 _) (hf2 _) (by rw [xfs_len]; omega) hd hkk
  · exact va_putN hx hb hts q4 ty q5 q6 hown hK hP hD hSS i he q1 k hk ((hE.1 _ h).use (by rfl)) (fun _ z => z) hfin (q5 k hk) (hf1 _) (hf2 _) (by rw [xfs_len]; omega) hd hkk
theorem xty_at (cy : Nat → ClassId) : (xty cy)[0]? = some (cy 7, .byte) ∧ (xty cy)[1]? = some (cy 8, .int) ∧ (xty cy)[2]? = some (cy 9, .boolean) ∧ (xty cy)[3]? = some (cy 10, .object RX0) ∧ (xty cy)[4]? = some (cy 11, .object RX2) := ⟨rfl, rfl, rfl, rfl, rfl⟩
theorem g_alen (hX : xOK X own cc nL lv kc ks) {a c : Nat} {v : Int32} (hn : a < n) (hc : xK a = c) (h7 : ¬ c < 7) (h10 : c < 10) (hd : decode cc pc = .ok (.arraylength, 1)) (hv : nI (xN a) = v)
    (kk : G X n cs sl I R (pc + 1) L (.int v :: st)) : G X n cs sl I R pc L (.ref a :: st) := by
  obtain ⟨⟨p, l, e, Rm, s, m, args, below, meth, c'⟩, Q, D, cy, A, B, n0, nL'⟩ := X
  obtain ⟨hx, hb, hml, hnl, hown, hts, hK, hA, hE, -⟩ := hX
  intro ad H locs ls hS hl
  have he : (xws cy ad I R n)[a]? = some (ad a, .inl (cy c, xN a, .inl (I a))) := by rw [xws_get hn, xe_arr hc h7 h10]
  rcases (show c = 7 ∨ c = 8 ∨ c = 9 by omega) with rfl | rfl | rfl
  · exact va_alen hx hb hK hS.1 a 0 he (xty_at cy).1 hv hd (kk ad H locs ls hS hl)
  · exact va_alen hx hb hK hS.1 a 1 he (xty_at cy).2.1 hv hd (kk ad H locs ls hS hl)
  · exact va_alen hx hb hK hS.1 a 2 he (xty_at cy).2.2.1 hv hd (kk ad H locs ls hS hl)
theorem g_iald (hX : xOK X own cc nL lv kc ks) {a : Nat} {i v : Int32} (hn : a < n) (hc : xK a = 8) (k : Nat) (hi : i = nI k) (hk : k < xN a) (hd : decode cc pc = .ok (.iaload, 1)) (hv : I a k = v)
    (kk : G X n cs sl I R (pc + 1) L (.int v :: st)) : G X n cs sl I R pc L (.int i :: .ref a :: st) := by
  obtain ⟨⟨p, l, e, Rm, s, m, args, below, meth, c'⟩, Q, D, cy, A, B, n0, nL'⟩ := X
  obtain ⟨hx, hb, hml, hnl, hown, hts, hK, hA, hE, -⟩ := hX
  intro ad H locs ls hS hl
  have he : (xws cy ad I R n)[a]? = some (ad a, .inl (cy 8, xN a, .inl (I a))) := by rw [xws_get hn, xe_arr hc (by decide) (by decide)]
  subst hi; subst hv
  have w := kk ad H locs ls hS hl
  refine va_iald hx hb hK hS.1 a 1 he (xty_at cy).2.1 (vp_in_nI hk (xN_lt a)) hd ?_
  rw [nI_clamp (Nat.lt_trans hk (xN_lt a))]
  exact w
theorem g_bald (hX : xOK X own cc nL lv kc ks) {a : Nat} {i v : Int32} (hn : a < n) (hc : xK a = 7) (k : Nat) (hi : i = nI k) (hk : k < xN a) (hd : decode cc pc = .ok (.baload, 1)) (hv : I a k = v)
    (kk : G X n cs sl I R (pc + 1) L (.int v :: st)) : G X n cs sl I R pc L (.int i :: .ref a :: st) := by
  obtain ⟨⟨p, l, e, Rm, s, m, args, below, meth, c'⟩, Q, D, cy, A, B, n0, nL'⟩ := X
  obtain ⟨hx, hb, hml, hnl, hown, hts, hK, hA, hE, -⟩ := hX
  intro ad H locs ls hS hl
  have he : (xws cy ad I R n)[a]? = some (ad a, .inl (cy 7, xN a, .inl (I a))) := by rw [xws_get hn, xe_arr hc (by decide) (by decide)]
  subst hi; subst hv
  have w := kk ad H locs ls hS hl
  refine va_bald hx hb hK hS.1 a 0 he (xty_at cy).1 (vp_in_nI hk (xN_lt a)) hd ?_
  rw [nI_clamp (Nat.lt_trans hk (xN_lt a))]
  exact w
theorem g_zald (hX : xOK X own cc nL lv kc ks) {a : Nat} {i v : Int32} (hn : a < n) (hc : xK a = 9) (k : Nat) (hi : i = nI k) (hk : k < xN a) (hd : decode cc pc = .ok (.baload, 1)) (hv : I a k = v)
    (kk : G X n cs sl I R (pc + 1) L (.int v :: st)) : G X n cs sl I R pc L (.int i :: .ref a :: st) := by
  obtain ⟨⟨p, l, e, Rm, s, m, args, below, meth, c'⟩, Q, D, cy, A, B, n0, nL'⟩ := X
  obtain ⟨hx, hb, hml, hnl, hown, hts, hK, hA, hE, -⟩ := hX
  intro ad H locs ls hS hl
  have he : (xws cy ad I R n)[a]? = some (ad a, .inl (cy 9, xN a, .inl (I a))) := by rw [xws_get hn, xe_arr hc (by decide) (by decide)]
  subst hi; subst hv
  have w := kk ad H locs ls hS hl
  refine va_zald hx hb hK hS.1 a 2 he (xty_at cy).2.2.1 (vp_in_nI hk (xN_lt a)) hd ?_
  rw [nI_clamp (Nat.lt_trans hk (xN_lt a))]
  exact w
theorem g_iast (hX : xOK X own cc nL lv kc ks) {a : Nat} {i v : Int32} (hn : a < n) (hc : xK a = 8) (k : Nat) (hi : i = nI k) (hk : k < xN a) (hd : decode cc pc = .ok (.iastore, 1))
    (kk : G X n cs sl (xput I a k v) R (pc + 1) L st) : G X n cs sl I R pc L (.int v :: .int i :: .ref a :: st) := by
  obtain ⟨⟨p, l, e, Rm, s, m, args, below, meth, c'⟩, Q, D, cy, A, B, n0, nL'⟩ := X
  obtain ⟨hx, hb, hml, hnl, hown, hts, hK, hA, hE, -⟩ := hX
  intro ad H locs ls hS hl
  obtain ⟨hP, hD, hSS, hAg⟩ := hS
  have he : (xws cy ad I R n)[a]? = some (ad a, .inl (cy 8, xN a, .inl (I a))) := by rw [xws_get hn, xe_arr hc (by decide) (by decide)]
  subst hi
  refine va_iast hx hb hK hP hD hSS a 1 he (xty_at cy).2.1 (vp_in_nI hk (xN_lt a)) hd (fun H1 locs1 h1 h2 h3 => ?_)
  rw [nI_clamp (Nat.lt_trans hk (xN_lt a)), xws_row hn hc (by decide) (by decide)] at h1 h2
  exact kk ad H1 locs1 ls ⟨h1, h2, h3, hAg⟩ hl
theorem g_bast (hX : xOK X own cc nL lv kc ks) {a : Nat} {i v : Int32} (hn : a < n) (hc : xK a = 7) (k : Nat) (hi : i = nI k) (hk : k < xN a) (hd : decode cc pc = .ok (.bastore, 1))
    (kk : G X n cs sl (xput I a k v.toInt8.toInt32) R (pc + 1) L st) : G X n cs sl I R pc L (.int v :: .int i :: .ref a :: st) := by
  obtain ⟨⟨p, l, e, Rm, s, m, args, below, meth, c'⟩, Q, D, cy, A, B, n0, nL'⟩ := X
  obtain ⟨hx, hb, hml, hnl, hown, hts, hK, hA, hE, -⟩ := hX
  intro ad H locs ls hS hl
  obtain ⟨hP, hD, hSS, hAg⟩ := hS
  have he : (xws cy ad I R n)[a]? = some (ad a, .inl (cy 7, xN a, .inl (I a))) := by rw [xws_get hn, xe_arr hc (by decide) (by decide)]
  subst hi
  refine va_bast hx hb hK hP hD hSS a 0 he (xty_at cy).1 (vp_in_nI hk (xN_lt a)) hd (fun H1 locs1 h1 h2 h3 => ?_)
  rw [nI_clamp (Nat.lt_trans hk (xN_lt a)), xws_row hn hc (by decide) (by decide), vp_nar_byte] at h1 h2
  exact kk ad H1 locs1 ls ⟨h1, h2, h3, hAg⟩ hl
theorem g_zast (hX : xOK X own cc nL lv kc ks) {a : Nat} {i v : Int32} (hn : a < n) (hc : xK a = 9) (k : Nat) (hi : i = nI k) (hk : k < xN a) (hd : decode cc pc = .ok (.bastore, 1)) (hv : vp_nar .boolean v = v)
    (kk : G X n cs sl (xput I a k v) R (pc + 1) L st) : G X n cs sl I R pc L (.int v :: .int i :: .ref a :: st) := by
  obtain ⟨⟨p, l, e, Rm, s, m, args, below, meth, c'⟩, Q, D, cy, A, B, n0, nL'⟩ := X
  obtain ⟨hx, hb, hml, hnl, hown, hts, hK, hA, hE, -⟩ := hX
  intro ad H locs ls hS hl
  obtain ⟨hP, hD, hSS, hAg⟩ := hS
  have he : (xws cy ad I R n)[a]? = some (ad a, .inl (cy 9, xN a, .inl (I a))) := by rw [xws_get hn, xe_arr hc (by decide) (by decide)]
  subst hi
  refine va_zast hx hb hK hP hD hSS a 2 he (xty_at cy).2.2.1 (vp_in_nI hk (xN_lt a)) hd (fun H1 locs1 h1 h2 h3 => ?_)
  rw [nI_clamp (Nat.lt_trans hk (xN_lt a)), xws_row hn hc (by decide) (by decide), hv] at h1 h2
  exact kk ad H1 locs1 ls ⟨h1, h2, h3, hAg⟩ hl
theorem g_aald (hX : xOK X own cc nL lv kc ks) {a c j : Nat} {i : Int32} (hn : a < n) (hc : xK a = c) (h10 : c = 10 ∨ c = 11) (k : Nat) (hi : i = nI k) (hk : k < xN a) (hd : decode cc pc = .ok (.aaload, 1)) (hv : R a k = some j)
    (kk : G X n cs sl I R (pc + 1) L (.ref j :: st)) : G X n cs sl I R pc L (.int i :: .ref a :: st) := by
  obtain ⟨⟨p, l, e, Rm, s, m, args, below, meth, c'⟩, Q, D, cy, A, B, n0, nL'⟩ := X
  obtain ⟨hx, hb, hml, hnl, hown, hts, hK, hA, hE, -⟩ := hX
  intro ad H locs ls hS hl
  have he : (xws cy ad I R n)[a]? = some (ad a, .inl (cy c, xN a, .inr (.inr (.inr (.inr (fun k => (R a k).map ad)))))) := by rw [xws_get hn, xe_arq hc (by omega)]
  subst hi
  have w := kk ad H locs ls hS hl
  have e2 : va_rf ((fun k => (R a k).map ad) (nI k).toNatClampNeg) = .ref (ad j) := by
    rw [nI_clamp (Nat.lt_trans hk (xN_lt a))]
    simp [hv, va_rf]
  rcases h10 with rfl | rfl
  · refine va_aldq hx hb hK hS.1 a 3 he (xty_at cy).2.2.2.1 (vp_in_nI hk (xN_lt a)) hd ?_
    rw [e2]
    exact w
  · refine va_aldq hx hb hK hS.1 a 4 he (xty_at cy).2.2.2.2 (vp_in_nI hk (xN_lt a)) hd ?_
    rw [e2]
    exact w
end
