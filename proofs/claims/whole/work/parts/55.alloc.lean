/-! MAKING: rows that leave a memory of one object more -/
def xEq (n : Nat) (I : xM) (R : xR) (I' : xM) (R' : xR) : Prop :=
  ∀ i, i < n → (xK i < 7 → ∀ k, k < xnf (xK i) → I' i k = I i k ∧ R' i k = R i k) ∧ (7 ≤ xK i → xK i < 10 → I' i = I i) ∧ (10 ≤ xK i → R' i = R i)
theorem xEq_ws {cy : Nat → ClassId} {ad : Nat → Nat} {n : Nat} {I I' : xM} {R R' : xR} (h : xEq n I R I' R') : xws cy ad I' R' n = xws cy ad I R n := by
  refine xws_congr (fun i hi => ?_)
  obtain ⟨h1, h2, h3⟩ := h i hi
  unfold xe xek
  by_cases c7 : xK i < 7
  · rw [if_pos c7, if_pos c7]
    congr 2
    unfold xfs
    apply List.map_congr_left
    intro k hk
    obtain ⟨e1, e2⟩ := h1 c7 k (List.mem_range.mp hk)
    unfold xval
    rw [e1, e2]
  · rw [if_neg c7, if_neg c7]
    by_cases c10 : xK i < 10
    · rw [if_pos c10, if_pos c10, h2 (by omega) c10]
    · rw [if_neg c10, if_neg c10, h3 (by omega)]
theorem xRok_put {n i k j : Nat} {R : xR} (h : xRok n R) (hj : j < n) : xRok n (xputR R i k (some j)) := by
  intro a b c ha he
  by_cases e : a = i
  · subst e
    rw [xputR_self] at he
    by_cases e2 : b = k
    · subst e2; rw [va_up_self] at he; cases he; exact hj
    · rw [va_up_ne _ _ e2] at he; exact h a b c ha he
  · rw [xputR_ne e] at he; exact h a b c ha he
theorem xRok_new {n : Nat} {R : xR} (h : xRok n R) : xRok (n + 1) (va_up R n (fun _ => none)) := by
  intro a b c ha he
  by_cases e : a = n
  · subst e; rw [va_up_self] at he; cases he
  · rw [va_up_ne _ _ e] at he; have := h a b c (by omega) he; omega
theorem xRok_new' {n : Nat} {R : xR} (h : xRok n R) : xRok n (va_up R n (fun _ => none)) := by
  intro a b c ha he
  rw [va_up_ne _ _ (by omega)] at he; exact h a b c ha he
section
variable {X : xX} {own : String} {cc : ByteArray} {nL lv kc ks n cs sl pc : Nat} {I : xM} {R : xR} {L : List (Nat × Value)} {st : List Value}
theorem g_eq {I' : xM} {R' : xR} (h : xEq n I R I' R') (k : G X n cs sl I' R' pc L st) : G X n cs sl I R pc L st := by
  obtain ⟨⟨p, l, e, Rm, s, m, args, below, meth, c'⟩, Q, D, cy, A, B, n0, nL'⟩ := X
  intro ad H locs ls hS hl
  refine k ad H locs ls ?_ hl
  unfold xSt at hS ⊢
  rw [xEq_ws h]
  exact hS
theorem xEq_new {f : Nat → Int32} {g : Nat → Option Nat} : xEq n I R (xrow I n f) (va_up R n g) := by
  intro i hi
  rw [xrow_o (show i ≠ n by omega), va_up_ne _ _ (show i ≠ n by omega)]
  exact ⟨fun _ _ _ => ⟨rfl, rfl⟩, fun _ _ => rfl, fun _ => rfl⟩
theorem g_new2 (hX : xOK X own cc nL lv kc ks) {index c N : Nat} {C : String} {T : u_T} {ty : Nat → FieldType} (hC : xCl c C T N ty) (hdf : ∀ j, j < N → defaultValue (ty j) = if xir c j then .null else .int 0) (h1 : Cond.classLink own index C ∈ xgw) (h2 : Cond.instantiable C N ∈ xgw) (h3 : Cond.initialized C ∈ xgw) (hd : decode cc pc = .ok (.new index, 3)) (hc : xK n = c) (hn : n < 1000000) (hRk : xRok n R) (hL : ∀ q ∈ L, xvok n q.2) (hst : ∀ v ∈ st, xvok n v) (hcs : cs + 1 ≤ kc) (hsl : sl + N ≤ ks)
    (kk : xRok (n + 1) (va_up R n (fun _ => none)) → G X (n + 1) (cs + 1) (sl + N) (xrow I n (fun _ => 0)) (va_up R n (fun _ => none)) (pc + 3) L (.ref n :: st)) : G X n cs sl I R pc L st :=
  g_eq xEq_new (g_new hX hC hdf h1 h2 h3 hc hn xrow_e (va_up_self _ _ _) (xRok_new' hRk) hL hst hcs hsl hd (kk (xRok_new hRk)))
theorem g_newa2 (hX : xOK X own cc nL lv kc ks) {c N : Nat} {z : Int32} (at' : ArrayType) (ty : FieldType) (hat : (at', ty, c) = (.byte, .byte, 7) ∨ (at', ty, c) = (.int, .int, 8) ∨ (at', ty, c) = (.boolean, .boolean, 9)) (h1 : Cond.arrayClass ty ∈ xgw) (hz : z = nI N) (hd : decode cc pc = .ok (.newarray at', 2)) (hc : xK n = c) (hN : xN n = N) (hn : n < 1000000) (hRk : xRok n R) (hL : ∀ q ∈ L, xvok n q.2) (hst : ∀ v ∈ st, xvok n v) (hcs : cs + 1 ≤ kc) (hsl : sl + N ≤ ks)
    (kk : xRok (n + 1) (va_up R n (fun _ => none)) → G X (n + 1) (cs + 1) (sl + N) (xrow I n (fun _ => 0)) (va_up R n (fun _ => none)) (pc + 2) L (.ref n :: st)) : G X n cs sl I R pc L (.int z :: st) :=
  g_eq xEq_new (g_newa hX at' ty hat h1 hc hN hz hn xrow_e (va_up_self _ _ _) (xRok_new' hRk) hL hst hcs hsl hd (kk (xRok_new hRk)))
theorem g_putF2 (hX : xOK X own cc nL lv kc ks) {y : MethodName} {ret : Option FieldType} {n0 mc ms : Nat} {Post : xP} (hRt : xRt X y ret n0 Post mc ms) (hy : y.name = "<init>") {i c N index : Nat} {C : String} {T : u_T} {ty : Nat → FieldType} {j : Nat} (hn : i < n) (hj : j < n) (hRk : xRok n R) (hc : xK i = c) (hC : xCl c C T N ty) (hCo : C = own) (k : Nat) (hk : k < N) (hir : xir c k = true) (hfin : (T k).2.2.2 = true) (hlk : Cond.fieldLink own index (T k).1 (T k).2.1 (T k).2.2.1 ∈ xgw) (hd : decode cc pc = .ok (.putfield index, 3)) (hf1 : ∀ a : Nat, narrow (ty k) (.ref a) = .ref a) (hf2 : ∀ a : Nat, fits (ty k) (.ref a) = true)
    (kk : xRok n (xputR R i k (some j)) → G X n cs sl I (xputR R i k (some j)) (pc + 3) L st) : G X n cs sl I R pc L (.ref j :: .ref i :: st) :=
  g_putF hX hRt hy hn hc hC hCo k hk hir hfin hlk hd hf1 hf2 (kk (xRok_put hRk hj))
theorem g_putR2 (hX : xOK X own cc nL lv kc ks) {i c N index : Nat} {C : String} {T : u_T} {ty : Nat → FieldType} {j : Nat} (hn : i < n) (hj : j < n) (hRk : xRok n R) (hc : xK i = c) (hC : xCl c C T N ty) (k : Nat) (hk : k < N) (hir : xir c k = true) (hfin : (T k).2.2.2 = false) (hlk : xLk own index T k) (hd : decode cc pc = .ok (.putfield index, 3)) (hf1 : ∀ a : Nat, narrow (ty k) (.ref a) = .ref a) (hf2 : ∀ a : Nat, fits (ty k) (.ref a) = true)
    (kk : xRok n (xputR R i k (some j)) → G X n cs sl I (xputR R i k (some j)) (pc + 3) L st) : G X n cs sl I R pc L (.ref j :: .ref i :: st) :=
  g_putR hX hn hc hC k hk hir hfin hlk hd hf1 hf2 (kk (xRok_put hRk hj))
theorem g_newq2 (hX : xOK X own cc nL lv kc ks) {index c N : Nat} {C : String} {z : Int32} (hCc : (C = RX0 ∧ c = 10) ∨ (C = RX2 ∧ c = 11)) (hAO : va_AO C X.1.2.2.2.2.1) (h1 : Cond.classLink own index C ∈ xgw) (hz : z = nI N) (hd : decode cc pc = .ok (.anewarray index, 3)) (hc : xK n = c) (hN : xN n = N) (hn : n < 1000000) (hRk : xRok n R) (hL : ∀ q ∈ L, xvok n q.2) (hst : ∀ v ∈ st, xvok n v) (hcs : cs + 1 ≤ kc) (hsl : sl + N ≤ ks)
    (kk : xRok (n + 1) (va_up R n (fun _ => none)) → G X (n + 1) (cs + 1) (sl + N) (xrow I n (fun _ => 0)) (va_up R n (fun _ => none)) (pc + 3) L (.ref n :: st)) : G X n cs sl I R pc L (.int z :: st) := by
  have kk := kk (xRok_new hRk)
  refine g_eq (xEq_new (f := fun _ => 0) (g := fun _ => none)) ?_
  have hRk' := xRok_new' hRk
  obtain ⟨⟨p, l, e, Rm, s, m, args, below, meth, c'⟩, Q, D, cy, A, B, n0, nL'⟩ := X
  obtain ⟨hx, hb, hml, hnl, hown, hts, hK, hA, hE, hfr, hlo, hce, hsl2⟩ := hX
  intro ad H locs ls hS hl
  obtain ⟨hP, hD, hSS, hAg⟩ := hS
  have hNl := xN_le n
  subst hz
  have r0 : (cy c, FieldType.object C) ∈ xty cy := by
    rcases hCc with ⟨rfl, rfl⟩ | ⟨rfl, rfl⟩
    · exact List.mem_of_getElem? (xty_at cy).2.2.2.1
    · exact List.mem_of_getElem? (xty_at cy).2.2.2.2
  have c10 : ¬ c < 10 := by rcases hCc with ⟨-, rfl⟩ | ⟨-, rfl⟩ <;> decide
  refine va_newq (N' := N) hx hb hown (hts _ h1) hAO hK hP hD hSS hA (nI_pos (by omega)) (nI_clamp (by omega)) (by omega) (by omega) (by omega) hd (fun q cA H1 gK g1 g2 g3 => ?_)
  have hcA : cA = cy c := by
    obtain ⟨j, hj⟩ := List.mem_iff_getElem?.mp r0
    obtain ⟨_, _, _, _, _, r1⟩ := (hK.2 j _ hj).2
    obtain ⟨_, _, _, _, _, r2⟩ := (gK.2 5 (cA, .object C) rfl).2
    exact Option.some.inj (r2.symm.trans r1)
  have e1 : xws cy ad (xrow I n (fun _ => 0)) (va_up R n (fun _ => none)) n ++ [(q, .inl (cA, N, .inr (.inr (.inr (.inr (fun _ => none))))))] = xws cy (va_up ad n q) (xrow I n (fun _ => 0)) (va_up R n (fun _ => none)) (n + 1) := by
    refine xws_app ?_ (fun i hi => xe_up hRk' hi)
    rw [xe_arq hc c10, hcA, hN, va_up_self]
    rfl
  rw [e1] at g1 g2
  have w := kk (va_up ad n q) H1 locs ls ⟨g1, g2, g3, xAg_new hAg hn⟩ (by rw [xcl_map hL (xup_same hn)]; exact hl)
  rw [List.map_cons, xcv_map hst (xup_same hn)] at w
  have e2 : xcv (va_up ad n q) (.ref n) = .ref q := by simp [xcv, va_up_self]
  rw [e2] at w
  exact w
theorem g_astq2 (hX : xOK X own cc nL lv kc ks) {a v c cv : Nat} {i : Int32} (hCc : (c = 10 ∧ cv = 0) ∨ (c = 11 ∧ cv = 2)) (ha : a < n) (hv : v < n) (hRk : xRok n R) (hc : xK a = c) (hcv : xK v = cv) (k : Nat) (hi : i = nI k) (hk : k < xN a) (hd : decode cc pc = .ok (.aastore, 1))
    (kk : xRok n (xputR R a k (some v)) → G X n cs sl I (xputR R a k (some v)) (pc + 1) L st) : G X n cs sl I R pc L (.ref v :: .int i :: .ref a :: st) := by
  have kk := kk (xRok_put hRk hv)
  obtain ⟨⟨p, l, e, Rm, s, m, args, below, meth, c'⟩, Q, D, cy, A, B, n0, nL'⟩ := X
  obtain ⟨hx, hb, hml, hnl, hown, hts, hK, hA, hE, hfr, hlo, hce, hsl2⟩ := hX
  intro ad H locs ls hS hl
  obtain ⟨hP, hD, hSS, hAg⟩ := hS
  have hNl := xN_le a
  subst hi
  have hfin : ∀ (H1 : Heap) (locs1 : List Loc), va_P D vwCl ((xws cy ad I R n).set a (ad a, .inl (cy c, xN a, .inr (.inr (.inr (.inr (va_up (fun k => (R a k).map ad) (nI k).toNatClampNeg (some (ad v))))))))) H1 → va_D A ((xws cy ad I R n).set a (ad a, .inl (cy c, xN a, .inr (.inr (.inr (.inr (va_up (fun k => (R a k).map ad) (nI k).toNatClampNeg (some (ad v))))))))) → va_S A s.heap H1 locs1 → W p l e Rm s m args below meth c' H1 locs1 cs sl Q (F0 m (pc + 1) ls (st.map (xcv ad))) := by
    intro H1 locs1 h1 h2 h3
    have e1 : (xws cy ad I R n).set a (ad a, .inl (cy c, xN a, .inr (.inr (.inr (.inr (va_up (fun k => (R a k).map ad) (nI k).toNatClampNeg (some (ad v)))))))) = xws cy ad I (xputR R a k (some v)) n := by
      refine xws_set ha (fun _ _ => rfl) (fun j hj => xputR_ne hj) ?_
      rw [xe_arq hc (by rcases hCc with ⟨rfl, -⟩ | ⟨rfl, -⟩ <;> decide), xputR_self, nI_clamp (by omega)]
      congr 7
      funext j
      by_cases hj : j = k
      · subst hj; rw [va_up_self, va_up_self]; rfl
      · rw [va_up_ne _ _ hj, va_up_ne _ _ hj]
    rw [e1] at h1 h2
    exact kk ad H1 locs1 ls ⟨h1, h2, h3, hAg⟩ hl
  have hea : (xws cy ad I R n)[a]? = some (ad a, .inl (cy c, xN a, .inr (.inr (.inr (.inr (fun k => (R a k).map ad)))))) := by rw [xws_get ha, xe_arq hc (by rcases hCc with ⟨rfl, -⟩ | ⟨rfl, -⟩ <;> decide)]
  have hev : (xws cy ad I R n)[v]? = some (ad v, .inr (cv, xfs ad (I v) (R v) cv)) := by rw [xws_get hv, xe_obj hcv (by rcases hCc with ⟨-, rfl⟩ | ⟨-, rfl⟩ <;> decide)]
  rcases hCc with ⟨rfl, rfl⟩ | ⟨rfl, rfl⟩
  · exact va_astq hx hb hK hP hD hSS a 3 v 0 hea (r := (RX0, TX0, 15)) (xty_at cy).2.2.2.1 hev rfl (vp_in_nI hk (by omega)) hd hfin
  · exact va_astq hx hb hK hP hD hSS a 4 v 2 hea (r := (RX2, TX2, 4)) (xty_at cy).2.2.2.2 hev rfl (vp_in_nI hk (by omega)) hd hfin
end
section
variable {X : xX} {own : String} {cc : ByteArray} {nL lv kc ks n cs sl pc : Nat} {I : xM} {R : xR} {L : List (Nat × Value)} {st : List Value}
variable {y : MethodName} {b : ByteArray} {maxL lvc mc ms index o : Nat} {Post : xP}
/-- a constructor's call, behind 'new' -/
theorem g_callI (hX : xOK X own cc nL lv kc ks) (hM : ∀ l, xC l lvc mc ms y b maxL none n [.ref o] I R Post) (hy : xMt y b maxL none 0) (hin : y.name = "<init>") (hi : Cond.instanceMethod y ∈ xgw) (hlk : xLm own index y) (hd : decode cc pc = .ok (.invokespecial index, 3)) (hlv : lvc + 1 ≤ lv) (hroom : (st.map fun v => v.category).sum ≤ 8) (hcs : cs + mc ≤ kc) (hsl : sl + ms ≤ ks) (hL : ∀ q ∈ L, xvok n q.2) (hst : ∀ v ∈ st, xvok n v)
    (kk : ∀ (v : Option Value) (n' : Nat) (I' : xM) (R' : xR), Post v n' I' R' → v = none ∧ G X n' (cs + mc) (sl + ms) I' R' (pc + 3) L st) : G X n cs sl I R pc L (.ref o :: st) := by
  have hcb := fun h => xcb (X := X) (lvc := lvc) (mc := mc) (ms := ms) (index := index) hX hy h hlv
  have hcn := fun host h => xcn (X := X) (lvc := lvc) (mc := mc) (ms := ms) (index := index) (host := host) hX hy h hlv
  obtain ⟨⟨p, l, e, Rm, s, m, args, below, meth, c'⟩, Q, D, cy, A, B, n0, nL'⟩ := X
  obtain ⟨hx, hb, hml, rfl, hown, hts, hK, hA, hE, hfr, hlo, hce, hsl2⟩ := hX
  intro ad H locs ls hS hl
  have hp : PreS s H (va_Pc (([.ref o] : List Value).map (xcv ad)) (xPre D cy ad n I R H.size)) (.ref (ad o) :: []) :=
    ⟨xPre_blind, fun U hU hW => ⟨rfl, xPre_of hK hE hA hS hU hW⟩⟩
  have hrm : ((st.map (xcv ad)).map fun v => v.category).sum ≤ 8 := by
    rw [List.map_map]
    exact Nat.le_trans (Nat.le_of_eq (by congr 1; apply List.map_congr_left; intro v _; exact xcv_cat ad v)) hroom
  have hrun : va_Run p l e Rm s m args below meth c' H locs cs sl mc ms (F0 m pc ls (List.map (xcv ad) (.ref o :: st))) (st.map (xcv ad)) (xQ D cy (va_A (xws cy ad I R n) H.size) n ad Post (([.ref o] : List Value).map (xcv ad)).toArray) (va_A (xws cy ad I R n) H.size) := by
    rcases hlk with h | ⟨host, h⟩
    · exact va_runI (As := []) (rest := st.map (xcv ad)) ⟨hx, hb, hml, hown, hts⟩ (hM l D cy ad H.size) ⟨hcb h, hin, hts _ hi⟩ hp rfl rfl hl.1 rfl (lv_room hrm) hd ⟨by omega, by omega⟩
    · exact va_runIN (As := []) (rest := st.map (xcv ad)) ⟨hx, hb, hml, hown, hts⟩ (hM l D cy ad H.size) ⟨hcn host h, hin, hts _ hi⟩ hp rfl rfl hl.1 rfl (lv_room hrm) hd ⟨by omega, by omega⟩
  have hfree := xA_free hS.2.1 hS.2.2.1 hA
  refine x_call hrun hS.2.2.1 (fun q _ h => hfree q h) hfree (fun v ad' n' I' R' H1 locs1 hpost hP1 hD1 hag hz hS1 => ?_)
  obtain ⟨rfl, w⟩ := kk v n' I' R' hpost
  have w2 := w ad' H1 locs1 ls ⟨hP1, hD1.weaken (fun _ _ _ h => hfree _ h), hS1, hS.2.2.2.trans hag⟩ (by rw [xcl_map hL (fun i hi => hag.2.1 i hi)]; exact hl)
  rw [xcv_map hst (fun i hi => hag.2.1 i hi)] at w2
  exact w2
end
theorem xputR_i {R : xR} {i k j : Nat} {v w : Option Nat} (h : j ≠ k) (e : R i j = w) : xputR R i k v i j = w := by rw [xputR_self, va_up_ne _ _ h]; exact e
theorem xputR_e {R : xR} {i k : Nat} {v : Option Nat} : xputR R i k v i k = v := by rw [xputR_self, va_up_self]
theorem xputR_o {R : xR} {a b k j : Nat} {v w : Option Nat} (h : b ≠ a) (e : R b j = w) : xputR R a k v b j = w := by rw [xputR_ne h]; exact e
theorem xupR_o {R : xR} {a b j : Nat} {f : Nat → Option Nat} {w : Option Nat} (h : b ≠ a) (e : R b j = w) : va_up R a f b j = w := by rw [va_up_ne _ _ h]; exact e
