theorem xws_app {cy : Nat → ClassId} {ad : Nat → Nat} {I : xM} {R : xR} {n q : Nat} {e : va_E} (he : e = xe cy (va_up ad n q) I R n) (hw : ∀ i, i < n → xe cy (va_up ad n q) I R i = xe cy ad I R i) : xws cy ad I R n ++ [(q, e)] = xws cy (va_up ad n q) I R (n + 1) := by
  unfold xws
  rw [List.range_succ, List.map_append]
  congr 1
  · apply List.map_congr_left
    intro i hi
    have h1 := List.mem_range.mp hi
    rw [hw i h1, va_up_ne _ _ (show i ≠ n by omega)]
  · simp [he, va_up_self]
/-- what is made already refers to what is made already -/
def xRok (n : Nat) (R : xR) : Prop := ∀ i k j, i < n → R i k = some j → j < n
theorem xe_up {cy : Nat → ClassId} {ad : Nat → Nat} {I : xM} {R : xR} {n q i : Nat} (h : xRok n R) (hi : i < n) : xe cy (va_up ad n q) I R i = xe cy ad I R i := by
  have e : ∀ k, (R i k).map (va_up ad n q) = (R i k).map ad := by
    intro k
    cases hk : R i k with
    | none => rfl
    | some j => simp [va_up_ne _ _ (show j ≠ n from fun z => by have := h i k j hi hk; omega)]
  unfold xe xek xfs xval xrf
  simp only [e]
section
variable {X : xX} {own : String} {cc : ByteArray} {nL lv kc ks n cs sl pc : Nat} {I : xM} {R : xR} {L : List (Nat × Value)} {st : List Value}
theorem g_imax (hX : xOK X own cc nL lv kc ks) {index : Nat} {x y v : Int32} (h1 : Cond.methodLink own index Lib.Math.max.name ∈ xgw) (h2 : Cond.static Lib.Math.max.name ∈ xgw) (h3 : Cond.initialized "java/lang/Math" ∈ xgw) (h4 : Cond.code Lib.Math.max.name Lib.Math.max.code 2 (some .int) ∈ xgw) (hlv : 1 ≤ lv) (hrm : (st.map fun v => v.category).sum ≤ 8) (hcs : cs ≤ kc) (hsl : sl ≤ ks) (hd : decode cc pc = .ok (.invokestatic index, 3)) (hv : (if x < y then y else x) = v)
    (kk : G X n cs sl I R (pc + 3) L (.int v :: st)) : G X n cs sl I R pc L (.int y :: .int x :: st) := by
  obtain ⟨⟨p, l, e, Rm, s, m, args, below, meth, c'⟩, Q, D, cy, A, B, n0, nL'⟩ := X
  obtain ⟨hx, hb, hml, hnl, hown, hts, hK, hA, hE, hfr, hlo, hce, hsl2⟩ := hX
  intro ad H locs ls hS hl
  have hrm2 : ((st.map (xcv ad)).map fun v => v.category).sum ≤ 8 := by
    rw [List.map_map]
    exact Nat.le_trans (Nat.le_of_eq (by congr 1; apply List.map_congr_left; intro v _; exact xcv_cat ad v)) hrm
  subst hv
  exact va_mmax hx hb (by rw [hml, ← hnl]; exact hl.1.symm) hown (hts _ h1) (hts _ h2) (hts _ h3) (hts _ h4) (by omega) (by omega) (by omega) (by omega) hd (kk ad H locs ls hS hl)
theorem g_imin (hX : xOK X own cc nL lv kc ks) {index : Nat} {x y v : Int32} (h1 : Cond.methodLink own index Lib.Math.min.name ∈ xgw) (h2 : Cond.static Lib.Math.min.name ∈ xgw) (h3 : Cond.initialized "java/lang/Math" ∈ xgw) (h4 : Cond.code Lib.Math.min.name Lib.Math.min.code 2 (some .int) ∈ xgw) (hlv : 1 ≤ lv) (hrm : (st.map fun v => v.category).sum ≤ 8) (hcs : cs ≤ kc) (hsl : sl ≤ ks) (hd : decode cc pc = .ok (.invokestatic index, 3)) (hv : (if y < x then y else x) = v)
    (kk : G X n cs sl I R (pc + 3) L (.int v :: st)) : G X n cs sl I R pc L (.int y :: .int x :: st) := by
  obtain ⟨⟨p, l, e, Rm, s, m, args, below, meth, c'⟩, Q, D, cy, A, B, n0, nL'⟩ := X
  obtain ⟨hx, hb, hml, hnl, hown, hts, hK, hA, hE, hfr, hlo, hce, hsl2⟩ := hX
  intro ad H locs ls hS hl
  have hrm2 : ((st.map (xcv ad)).map fun v => v.category).sum ≤ 8 := by
    rw [List.map_map]
    exact Nat.le_trans (Nat.le_of_eq (by congr 1; apply List.map_congr_left; intro v _; exact xcv_cat ad v)) hrm
  subst hv
  exact va_mmin hx hb (by rw [hml, ← hnl]; exact hl.1.symm) hown (hts _ h1) (hts _ h2) (hts _ h3) (hts _ h4) (by omega) (by omega) (by omega) (by omega) hd (kk ad H locs ls hS hl)
/-- System.arraycopy between rows of one kind: ints or booleans -/
theorem g_copy (hX : xOK X own cc nL lv kc ks) {index a0 a1 c : Nat} {sp dp z : Int32} (h1 : Cond.methodLink own index arraycopyName ∈ xgw) (h2 : Cond.native arraycopyName ∈ xgw) (h3 : Cond.static arraycopyName ∈ xgw) (h4 : Cond.initialized "java/lang/System" ∈ xgw) (hn0 : a0 < n) (hn1 : a1 < n) (hc0 : xK a0 = c) (hc1 : xK a1 = c) (hc : c = 8 ∨ c = 9) (i j k : Nat) (hi : sp = nI i) (hj : dp = nI j) (hk : z = nI k) (hik : i + k ≤ xN a0) (hjk : j + k ≤ xN a1)
    (hfit : c = 9 → ∀ q, q < k → fits .boolean (.int (I a0 (i + q))) = true) (hlv : 1 ≤ lv) (hrm : (st.map fun v => v.category).sum + (nativeFrameWords "java/lang/System" "arraycopy" 5 + 11) ≤ 64) (hd : decode cc pc = .ok (.invokestatic index, 3))
    (kk : G X n cs sl (xrow I a1 (va_cpy (I a0) (I a1) i j k)) R (pc + 3) L st) : G X n cs sl I R pc L (.int z :: .int dp :: .ref a1 :: .int sp :: .ref a0 :: st) := by
  obtain ⟨⟨p, l, e, Rm, s, m, args, below, meth, c'⟩, Q, D, cy, A, B, n0, nL'⟩ := X
  obtain ⟨hx, hb, hml, hnl, hown, hts, hK, hA, hE, hfr, hlo, hce, hsl2⟩ := hX
  intro ad H locs ls hS hl
  obtain ⟨hP, hD, hSS, hAg⟩ := hS
  have hrm2 : ((st.map (xcv ad)).map fun v => v.category).sum + (nativeFrameWords "java/lang/System" "arraycopy" 5 + 11) ≤ Rm.locals := by
    have e1 : ((st.map (xcv ad)).map fun v => v.category).sum = (st.map fun v => v.category).sum := by
      rw [List.map_map]
      congr 1; apply List.map_congr_left; intro v _; exact xcv_cat ad v
    omega
  have b0 := xN_lt a0
  have b1 := xN_lt a1
  have c1 : (nI i).toNatClampNeg = i := nI_clamp (by omega)
  have c2 : (nI j).toNatClampNeg = j := nI_clamp (by omega)
  have c3 : (nI k).toNatClampNeg = k := nI_clamp (by omega)
  have he0 : (xws cy ad I R n)[a0]? = some (ad a0, .inl (cy c, xN a0, .inl (I a0))) := by rw [xws_get hn0, xe_arr hc0 (by omega) (by omega)]
  have he1 : (xws cy ad I R n)[a1]? = some (ad a1, .inl (cy c, xN a1, .inl (I a1))) := by rw [xws_get hn1, xe_arr hc1 (by omega) (by omega)]
  subst hi; subst hj; subst hk
  rcases hc with rfl | rfl
  · refine va_copyi hx hb (by rw [hml, ← hnl]; exact hl.1.symm) hown (hts _ h1) (hts _ h2) (hts _ h3) (hts _ h4) hK hP hD hSS a0 a1 1 1 he0 he1 (xty_at cy).2.1 (xty_at cy).2.1 rfl (nI_pos (by omega)) (nI_pos (by omega)) (nI_pos (by omega)) (by rw [c1, c3]; exact hik) (by rw [c2, c3]; exact hjk) (fun q _ => rfl) (by omega) hrm2 hd (fun H1 locs1 g1 g2 g3 => ?_)
    rw [c1, c2, c3, xws_row hn1 hc1 (by decide) (by decide)] at g1 g2
    exact kk ad H1 locs1 ls ⟨g1, g2, g3, hAg⟩ hl
  · refine va_copyi hx hb (by rw [hml, ← hnl]; exact hl.1.symm) hown (hts _ h1) (hts _ h2) (hts _ h3) (hts _ h4) hK hP hD hSS a0 a1 2 2 he0 he1 (xty_at cy).2.2.1 (xty_at cy).2.2.1 rfl (nI_pos (by omega)) (nI_pos (by omega)) (nI_pos (by omega)) (by rw [c1, c3]; exact hik) (by rw [c2, c3]; exact hjk) (fun q hq => by rw [c1]; rw [c3] at hq; exact hfit rfl q hq) (by omega) hrm2 hd (fun H1 locs1 g1 g2 g3 => ?_)
    rw [c1, c2, c3, xws_row hn1 hc1 (by decide) (by decide)] at g1 g2
    exact kk ad H1 locs1 ls ⟨g1, g2, g3, hAg⟩ hl
/-- a final field, in the constructor -/
theorem g_putF (hX : xOK X own cc nL lv kc ks) {y : MethodName} {ret : Option FieldType} {n0 mc ms : Nat} {Post : xP} (hRt : xRt X y ret n0 Post mc ms) (hy : y.name = "<init>") {i c N index : Nat} {C : String} {T : u_T} {ty : Nat → FieldType} {j : Nat} (hn : i < n) (hc : xK i = c) (hC : xCl c C T N ty) (hCo : C = own) (k : Nat) (hk : k < N) (hir : xir c k = true) (hfin : (T k).2.2.2 = true) (hlk : Cond.fieldLink own index (T k).1 (T k).2.1 (T k).2.2.1 ∈ xgw) (hd : decode cc pc = .ok (.putfield index, 3)) (hf1 : ∀ a : Nat, narrow (ty k) (.ref a) = .ref a) (hf2 : ∀ a : Nat, fits (ty k) (.ref a) = true)
    (kk : G X n cs sl I (xputR R i k (some j)) (pc + 3) L st) : G X n cs sl I R pc L (.ref j :: .ref i :: st) := by
  obtain ⟨⟨p, l, e, Rm, s, m, args, below, meth, c'⟩, Q, D, cy, A, B, n0', nL'⟩ := X
  obtain ⟨hx, hb, hml, hnl, hown, hts, hK, hA, hE, -⟩ := hX
  obtain ⟨q1, q2, q3, q4, q5, q6, q7⟩ := hC
  obtain ⟨hr, hlocks, hin, -, -⟩ := hRt
  intro ad H locs ls hS hl
  obtain ⟨hP, hD, hSS, hAg⟩ := hS
  have he : (xws cy ad I R n)[i]? = some (ad i, .inr (c, xfs ad (I i) (R i) c)) := by rw [xws_get hn, xe_obj hc q2]
  have hkk : ∀ (H1 : Heap) (locs1 : List Loc), va_P D vwCl ((xws cy ad I R n).set i (ad i, .inr (c, (xfs ad (I i) (R i) c).set k (.ref (ad j))))) H1 → va_D A ((xws cy ad I R n).set i (ad i, .inr (c, (xfs ad (I i) (R i) c).set k (.ref (ad j))))) → va_S A s.heap H1 locs1 → W p l e Rm s m args below meth c' H1 locs1 cs sl Q (F0 m (pc + 3) ls (st.map (xcv ad))) := by
    intro H1 locs1 h1 h2 h3
    rw [xws_putR hn hc q2 (by omega) hir] at h1 h2
    exact kk ad H1 locs1 ls ⟨h1, h2, h3, hAg⟩ hl
  exact va_putF hx hb hts q4 ty q5 q6 hown hK hP hD hSS i he q1 k hk (hts _ hlk) (fun _ z => z) hfin (hin.trans hy) ((q7 k hk).trans hCo) (q5 k hk) (hf1 _) (hf2 _) (by rw [xfs_len]; omega) hd hkk
theorem g_objInit (hX : xOK X own cc nL lv kc ks) {index a : Nat} (h1 : Cond.methodLink own index objectInit ∈ xgw) (h2 : Cond.instanceMethod objectInit ∈ xgw) (h3 : Cond.code objectInit ⟨#[0xb1]⟩ 1 none ∈ xgw) (hlv : 1 ≤ lv) (hrm : (st.map fun v => v.category).sum ≤ 8) (hd : decode cc pc = .ok (.invokespecial index, 3))
    (kk : G X n cs sl I R (pc + 3) L st) : G X n cs sl I R pc L (.ref a :: st) := by
  obtain ⟨⟨p, l, e, Rm, s, m, args, below, meth, c'⟩, Q, D, cy, A, B, n0, nL'⟩ := X
  obtain ⟨hx, hb, hml, hnl, hown, hts, hK, hA, hE, hfr, hlo, hce, hsl2⟩ := hX
  intro ad H locs ls hS hl
  have hrm2 : ((st.map (xcv ad)).map fun v => v.category).sum ≤ 8 := by
    rw [List.map_map]
    exact Nat.le_trans (Nat.le_of_eq (by congr 1; apply List.map_congr_left; intro v _; exact xcv_cat ad v)) hrm
  exact W.objInit hx hb hown (hts _ h1) (hts _ h2) (hts _ h3) rfl (by rw [hml, ← hnl]; exact hl.1) rfl hd (by omega) (by show 2 * 0 + _ + 12 ≤ _; omega) (kk ad H locs ls hS hl)
theorem xAg_new {B ad : Nat → Nat} {n0 q : Nat} (h : xAg B n0 n ad) (hn : n < 1000000) : xAg B n0 (n + 1) (va_up ad n q) := by
  refine ⟨by have := h.1; omega, fun i hi => ?_, fun e => by have := h.1; omega⟩
  rw [va_up_ne _ _ (show i ≠ n by have := h.1; omega)]
  exact h.2.1 i hi
theorem xup_same {ad : Nat → Nat} {q : Nat} (hn : n < 1000000) : ∀ i, (i < n ∨ 1000000 ≤ i) → va_up ad n q i = ad i := fun i hi => va_up_ne _ _ (by omega)
theorem g_new (hX : xOK X own cc nL lv kc ks) {index c N : Nat} {C : String} {T : u_T} {ty : Nat → FieldType} (hC : xCl c C T N ty) (hdf : ∀ j, j < N → defaultValue (ty j) = if xir c j then .null else .int 0) (h1 : Cond.classLink own index C ∈ xgw) (h2 : Cond.instantiable C N ∈ xgw) (h3 : Cond.initialized C ∈ xgw) (hc : xK n = c) (hn : n < 1000000) (hI : I n = fun _ => 0) (hR : R n = fun _ => none) (hRk : xRok n R) (hL : ∀ q ∈ L, xvok n q.2) (hst : ∀ v ∈ st, xvok n v) (hcs : cs + 1 ≤ kc) (hsl : sl + N ≤ ks) (hd : decode cc pc = .ok (.new index, 3))
    (kk : G X (n + 1) (cs + 1) (sl + N) I R (pc + 3) L (.ref n :: st)) : G X n cs sl I R pc L st := by
  obtain ⟨⟨p, l, e, Rm, s, m, args, below, meth, c'⟩, Q, D, cy, A, B, n0, nL'⟩ := X
  obtain ⟨hx, hb, hml, hnl, hown, hts, hK, hA, hE, hfr, hlo, hce, hsl2⟩ := hX
  obtain ⟨q1, q2, q3, q4, q5, q6, q7⟩ := hC
  intro ad H locs ls hS hl
  obtain ⟨hP, hD, hSS, hAg⟩ := hS
  refine va_new (fs := xfs ad (fun _ => 0) (fun _ => none) c) hx hb hts q4 ty q5 hown (hts _ h1) (hts _ h2) (hts _ h3) hK hP hD hSS hA q1 (fun j hj => ?_) (by omega) (by omega) hd (fun q H1 g1 g2 g3 => ?_)
  · rw [hdf j hj]
    unfold vp_V
    rw [List.getD_eq_getElem?_getD, xfs_get (by omega)]
    by_cases h : xir c j = true <;> simp [xval, h, xrf, va_rf]
  · have e1 : xws cy ad I R n ++ [(q, .inr (c, xfs ad (fun _ => 0) (fun _ => none) c))] = xws cy (va_up ad n q) I R (n + 1) := by
      refine xws_app ?_ (fun i hi => xe_up hRk hi)
      rw [xe_obj hc q2, hI, hR]
      rfl
    rw [e1] at g1 g2
    have w := kk (va_up ad n q) H1 locs ls ⟨g1, g2, g3, xAg_new hAg hn⟩ (by rw [xcl_map hL (xup_same hn)]; exact hl)
    rw [List.map_cons, xcv_map hst (xup_same hn)] at w
    have e2 : xcv (va_up ad n q) (.ref n) = .ref q := by simp [xcv, va_up_self]
    rw [e2] at w
    exact w
theorem g_newa (hX : xOK X own cc nL lv kc ks) {c N : Nat} {z : Int32} (at' : ArrayType) (ty : FieldType) (hat : (at', ty, c) = (.byte, .byte, 7) ∨ (at', ty, c) = (.int, .int, 8) ∨ (at', ty, c) = (.boolean, .boolean, 9)) (h1 : Cond.arrayClass ty ∈ xgw) (hc : xK n = c) (hN : xN n = N) (hz : z = nI N) (hn : n < 1000000) (hI : I n = fun _ => 0) (hR : R n = fun _ => none) (hRk : xRok n R) (hL : ∀ q ∈ L, xvok n q.2) (hst : ∀ v ∈ st, xvok n v) (hcs : cs + 1 ≤ kc) (hsl : sl + N ≤ ks) (hd : decode cc pc = .ok (.newarray at', 2))
    (kk : G X (n + 1) (cs + 1) (sl + N) I R (pc + 2) L (.ref n :: st)) : G X n cs sl I R pc L (.int z :: st) := by
  obtain ⟨⟨p, l, e, Rm, s, m, args, below, meth, c'⟩, Q, D, cy, A, B, n0, nL'⟩ := X
  obtain ⟨hx, hb, hml, hnl, hown, hts, hK, hA, hE, hfr, hlo, hce, hsl2⟩ := hX
  intro ad H locs ls hS hl
  obtain ⟨hP, hD, hSS, hAg⟩ := hS
  have hNl := xN_le n
  subst hz
  have fin : ∀ (q : Nat) (cA : ClassId) (H1 : Heap) (_ : cA = cy c) (_ : ¬ c < 7) (_ : c < 10), va_P D vwCl (xws cy ad I R n ++ [(q, .inl (cA, N, .inl (fun _ => 0)))]) H1 → va_D A (xws cy ad I R n ++ [(q, .inl (cA, N, .inl (fun _ => 0)))]) → va_S A s.heap H1 locs → W p l e Rm s m args below meth c' H1 locs (cs + 1) (sl + N) Q (F0 m (pc + 2) ls (.ref q :: st.map (xcv ad))) := by
    intro q cA H1 hcA h7 h10 g1 g2 g3
    have e1 : xws cy ad I R n ++ [(q, .inl (cA, N, .inl (fun _ => 0)))] = xws cy (va_up ad n q) I R (n + 1) := by
      refine xws_app ?_ (fun i hi => xe_up hRk hi)
      rw [xe_arr hc h7 h10, hI, hcA, hN]
    rw [e1] at g1 g2
    have w := kk (va_up ad n q) H1 locs ls ⟨g1, g2, g3, xAg_new hAg hn⟩ (by rw [xcl_map hL (xup_same hn)]; exact hl)
    rw [List.map_cons, xcv_map hst (xup_same hn)] at w
    have e2 : xcv (va_up ad n q) (.ref n) = .ref q := by simp [xcv, va_up_self]
    rw [e2] at w
    exact w
  rcases hat with h | h | h <;> cases h
  · refine va_newa (atype := .byte) (ty := .byte) (a0 := (N, .inl (fun _ => 0))) (N' := N) hx hb (hts _ h1) rfl hK hP hD hSS hA (fun cA => by rw [vp_cell_i]; rfl) (nI_pos (by omega)) (nI_clamp (by omega)) (by simp [componentBytes]; omega) (by omega) (by omega) hd (fun q cA H1 gK g1 g2 g3 => fin q cA H1 ?_ (by decide) (by decide) g1 g2 g3)
    have r1 := (hK.2 0 _ (xty_at cy).1).2
    have r2 := (gK.2 5 (cA, .byte) rfl).2
    exact Option.some.inj (r2.symm.trans r1)
  · refine va_newa (atype := .int) (ty := .int) (a0 := (N, .inl (fun _ => 0))) (N' := N) hx hb (hts _ h1) rfl hK hP hD hSS hA (fun cA => by rw [vp_cell_i]; rfl) (nI_pos (by omega)) (nI_clamp (by omega)) (by simp [componentBytes]; omega) (by omega) (by omega) hd (fun q cA H1 gK g1 g2 g3 => fin q cA H1 ?_ (by decide) (by decide) g1 g2 g3)
    have r1 := (hK.2 1 _ (xty_at cy).2.1).2
    have r2 := (gK.2 5 (cA, .int) rfl).2
    exact Option.some.inj (r2.symm.trans r1)
  · refine va_newa (atype := .boolean) (ty := .boolean) (a0 := (N, .inl (fun _ => 0))) (N' := N) hx hb (hts _ h1) rfl hK hP hD hSS hA (fun cA => by rw [vp_cell_i]; rfl) (nI_pos (by omega)) (nI_clamp (by omega)) (by simp [componentBytes]; omega) (by omega) (by omega) hd (fun q cA H1 gK g1 g2 g3 => fin q cA H1 ?_ (by decide) (by decide) g1 g2 g3)
    have r1 := (hK.2 2 _ (xty_at cy).2.2.1).2
    have r2 := (gK.2 5 (cA, .boolean) rfl).2
    exact Option.some.inj (r2.symm.trans r1)
end
