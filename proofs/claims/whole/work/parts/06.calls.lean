/-! CONTRACTS: from this memory the method comes back with an answer and a memory that the post names -/
abbrev xP : Type := Option Value → Nat → xM → xR → Prop
def xrm (lv mc ms : Nat) : Room := { frames := lv, cells := mc, slots := ms, locals := 64 * lv }
def xPre (D : va_G) (cy : Nat → ClassId) (ad : Nat → Nat) (n : Nat) (I : xM) (R : xR) (sz : Nat) : State → Prop := fun U =>
  U.heap.size = sz ∧ va_P D vwCl (xws cy ad I R n) U.heap ∧ va_K D vwCl (xty cy) U ∧ va_D (fun _ => True) (xws cy ad I R n) ∧ xE ad (va_A (xws cy ad I R n) sz) U U.heap
def xQ (D : va_G) (cy : Nat → ClassId) (A : Nat → Prop) (n : Nat) (ad : Nat → Nat) (Post : xP) : Array Value → State → Outcome → State → Prop := fun _ s o t =>
  (∃ (v : Option Value) (ad' : Nat → Nat) (n' : Nat) (I' : xM) (R' : xR), o = .returned (v.map (xcv ad')) ∧ Post v n' I' R' ∧ va_P D vwCl (xws cy ad' I' R' n') t.heap ∧ va_D A (xws cy ad' I' R' n') ∧ xAg ad n n' ad') ∧ va_F A s t
def xC (l : Launch) (lv mc ms : Nat) (y : MethodName) (b : ByteArray) (maxL : Nat) (ret : Option FieldType) (n : Nat) (vs : List Value) (I : xM) (R : xR) (Post : xP) : Prop :=
  ∀ (D : va_G) (cy : Nat → ClassId) (ad : Nat → Nat) (sz : Nat), Met l y (Cond.code y b maxL ret :: xgw) (xrm lv mc ms) (va_Pc (vs.map (xcv ad)) (xPre D cy ad n I R sz)) (xQ D cy (va_A (xws cy ad I R n) sz) n ad Post) mc ms (va_A (xws cy ad I R n) sz)
def xRt (X : xX) (y : MethodName) (ret : Option FieldType) (n : Nat) (Post : xP) (mc ms : Nat) : Prop :=
  match X with
  | ((_, _, _, _, s, _, args, below, meth, _), (Q, D, cy, A, B, n0, _)) =>
    meth.sig.returnType = ret ∧ meth.locks = false ∧ meth.name = y.name ∧ n0 = n ∧ Q = MQ below (xQ D cy A n B Post) args s mc ms A
theorem xC_of {l : Launch} {lv mc ms : Nat} {y : MethodName} {b : ByteArray} {maxL : Nat} {ret : Option FieldType} {n : Nat} {vs : List Value} {I : xM} {R : xR} {Post : xP} (hy : plainName y.cls = true) (hlen : (lg_sl vs).length ≤ maxL)
    (body : ∀ X : xX, X.1.2.1 = l → xOK X y.cls b maxL lv mc ms → xRt X y ret n Post mc ms → G X n 0 0 I R 0 (lv_args 0 vs) []) : xC l lv mc ms y b maxL ret n vs I R Post := by
  intro D cy ad sz
  refine Met.ofW (cc := b) (maxL := maxL) (ret := ret) hy rfl ?_
  intro p e s m args below meth c s₁ B hml hv
  obtain ⟨rfl, hsz, hP, hK, hD0, hE⟩ := hv
  have hts := atoms_spec (ws := Cond.code y b maxL ret :: xgw) B.pre
  have hown : s.vm.findClass y.cls = some m.cls := findClass_of_methodNamed B.named
  have hin : meth.name = y.name := (name_of_methodNamed B.named B.method).1
  subst hsz
  have hD := hD0.self (sz := s.heap.size)
  have hA : ∀ q : Nat, s.heap.size ≤ q → va_A (xws cy ad I R n) s.heap.size q := fun q h => Or.inr h
  have hl := lv_entry (vs.map (xcv ad)) (n := maxL) (by rw [xcv_sl]; exact hlen)
  rw [xcl_args] at hl
  rw [lg_entry_eq]
  exact body ((p, l, e, (headSpec (Cond.code y b maxL ret :: xgw) (xrm lv mc ms)).room, s, m, (vs.map (xcv ad)).toArray, below, meth, c), (MQ below (xQ D cy (va_A (xws cy ad I R n) s.heap.size) n ad Post) (vs.map (xcv ad)).toArray s mc ms (va_A (xws cy ad I R n) s.heap.size), D, cy, va_A (xws cy ad I R n) s.heap.size, ad, n, maxL)) rfl
    ⟨B.exec, B.bytes, hml, rfl, hown, fun w h => hts w (List.mem_cons_of_mem _ h), hK, hA, hE, Nat.le_refl lv, Nat.le_refl (64 * lv), Nat.le_refl mc, Nat.le_refl ms⟩
    ⟨B.returns, B.notSynchronized, hin, rfl, rfl⟩ ad s.heap [] _ ⟨hP, hD, va_S.rf, Nat.le_refl _, fun _ _ => rfl, fun _ => rfl⟩ hl
section
variable {X : xX} {own : String} {cc : ByteArray} {nL lv kc ks n cs sl pc : Nat} {I : xM} {R : xR} {L : List (Nat × Value)} {st : List Value}
variable {y : MethodName} {n0 mc ms : Nat} {Post : xP}
theorem g_iret (hX : xOK X own cc nL lv kc ks) (hR : xRt X y (some .int) n0 Post mc ms) {v : Int32} (hd : decode cc pc = .ok (.ireturn, 1)) (h1 : cs ≤ mc) (h2 : sl ≤ ms) (hp : Post (some (.int v)) n I R) : G X n cs sl I R pc L [.int v] := by
  obtain ⟨⟨p, l, e, Rm, s, m, args, below, meth, c'⟩, Q, D, cy, A, B, n0', nL'⟩ := X
  obtain ⟨hx, hb, hml, hnl, hown, hts, hK, hA, hE, -⟩ := hX
  obtain ⟨hr, hlocks, hin, rfl, rfl⟩ := hR
  intro ad H locs ls hS hl
  refine W.widen h1 h2 ?_
  exact W.iret hx hb hr (fun t ht hW => ⟨⟨some (.int v), ad, n, I, R, rfl, hp, by rw [ht]; exact hS.1, hS.2.1, hS.2.2.2⟩, hS.2.2.1.F ht⟩) hS.2.2.1.2.2 hd
theorem g_zret (hX : xOK X own cc nL lv kc ks) {ty : FieldType} (hR : xRt X y (some ty) n0 Post mc ms) {v : Int32} (hd : decode cc pc = .ok (.ireturn, 1)) (hn : narrow ty (.int v) = .int v) (h1 : cs ≤ mc) (h2 : sl ≤ ms) (hp : Post (some (.int v)) n I R) : G X n cs sl I R pc L [.int v] := by
  obtain ⟨⟨p, l, e, Rm, s, m, args, below, meth, c'⟩, Q, D, cy, A, B, n0', nL'⟩ := X
  obtain ⟨hx, hb, hml, hnl, hown, hts, hK, hA, hE, -⟩ := hX
  obtain ⟨hr, hlocks, hin, rfl, rfl⟩ := hR
  intro ad H locs ls hS hl
  refine W.widen h1 h2 ?_
  exact W.zret hx hb hr hn (fun t ht hW => ⟨⟨some (.int v), ad, n, I, R, rfl, hp, by rw [ht]; exact hS.1, hS.2.1, hS.2.2.2⟩, hS.2.2.1.F ht⟩) hS.2.2.1.2.2 hd
theorem g_lret (hX : xOK X own cc nL lv kc ks) (hR : xRt X y (some .long) n0 Post mc ms) {v : Int64} (hd : decode cc pc = .ok (.lreturn, 1)) (h1 : cs ≤ mc) (h2 : sl ≤ ms) (hp : Post (some (.long v)) n I R) : G X n cs sl I R pc L [.long v] := by
  obtain ⟨⟨p, l, e, Rm, s, m, args, below, meth, c'⟩, Q, D, cy, A, B, n0', nL'⟩ := X
  obtain ⟨hx, hb, hml, hnl, hown, hts, hK, hA, hE, -⟩ := hX
  obtain ⟨hr, hlocks, hin, rfl, rfl⟩ := hR
  intro ad H locs ls hS hl
  refine W.widen h1 h2 ?_
  exact W.lret hx hb hr (fun t ht hW => ⟨⟨some (.long v), ad, n, I, R, rfl, hp, by rw [ht]; exact hS.1, hS.2.1, hS.2.2.2⟩, hS.2.2.1.F ht⟩) hS.2.2.1.2.2 hd
theorem g_vret (hX : xOK X own cc nL lv kc ks) (hR : xRt X y none n0 Post mc ms) (hd : decode cc pc = .ok (.return_, 1)) (h1 : cs ≤ mc) (h2 : sl ≤ ms) (hp : Post none n I R) : G X n cs sl I R pc L [] := by
  obtain ⟨⟨p, l, e, Rm, s, m, args, below, meth, c'⟩, Q, D, cy, A, B, n0', nL'⟩ := X
  obtain ⟨hx, hb, hml, hnl, hown, hts, hK, hA, hE, -⟩ := hX
  obtain ⟨hr, hlocks, hin, rfl, rfl⟩ := hR
  intro ad H locs ls hS hl
  refine W.widen h1 h2 ?_
  exact W.vret hx hb hr (fun t ht hW => ⟨⟨none, ad, n, I, R, rfl, hp, by rw [ht]; exact hS.1, hS.2.1, hS.2.2.2⟩, hS.2.2.1.F ht⟩) hS.2.2.1.2.2 hd
end
/-- what a call leaves, for any kind of answer -/
theorem x_call {p : Program} {l : Launch} {e : Env} {Rm : Room} {s : State} {m : MethodId} {args : Array Value} {below : List Frame} {meth : Method} {c : Code} {H : Heap} {locs : List Loc} {cs sl mc ms pc n : Nat} {Q : State → Prop} {ls : Array Slot} {rest st0 : List Value} {a : Array Value} {A0 A1 free : Nat → Prop} {H0 : Heap}
    {D : va_G} {cy : Nat → ClassId} {ad : Nat → Nat} {Post : xP}
    (hr : va_Run p l e Rm s m args below meth c H locs cs sl mc ms (F0 m pc ls st0) rest (xQ D cy A1 n ad Post a) free) (hS : va_S A0 H0 H locs) (hA : ∀ q, q < H.size → A1 q → A0 q) (hf : ∀ q, free q → A0 q)
    (kk : ∀ (v : Option Value) (ad' : Nat → Nat) (n' : Nat) (I' : xM) (R' : xR) (H1 : Heap) (locs1 : List Loc), Post v n' I' R' → va_P D vwCl (xws cy ad' I' R' n') H1 → va_D A1 (xws cy ad' I' R' n') → xAg ad n n' ad' → H.size ≤ H1.size → va_S A0 H0 H1 locs1 → W p l e Rm s m args below meth c H1 locs1 (cs + mc) (sl + ms) Q (F0 m (pc + 3) ls ((v.map (xcv ad')).toList ++ rest))) : W p l e Rm s m args below meth c H locs cs sl Q (F0 m pc ls st0) := by
  intro T hT X
  obtain ⟨v, st₀, t, T', L, h0, X', hL, e1, e2, ⟨⟨v', ad', n', I', R', hv, hp, hP, hD, hag⟩, hz, hk⟩, st⟩ := hr T hT X
  cases hv
  rw [h0] at hz hk
  obtain ⟨t2, a1, b1⟩ := kk v' ad' n' I' R' T'.heap (locs ++ L) hp (by rw [e1]; exact hP) hD hag (by rw [e1]; exact hz)
    ⟨Nat.le_trans hS.1 (by rw [e1]; exact hz), fun q h1 h2 => by rw [e1, hk q (Nat.lt_of_lt_of_le h1 hS.1) (fun z => h2 (hA q (Nat.lt_of_lt_of_le h1 hS.1) z))]; exact hS.2.1 q h1 h2, fun q hq => by
      rcases List.mem_append.mp hq with h | h
      · exact hS.2.2 q h
      · exact hf _ (hL q h)⟩ T' rfl X'
  exact ⟨t2, st t2 a1, b1⟩
theorem xgood_self {y : MethodName} {b : ByteArray} {maxL : Nat} {ret : Option FieldType} (h : Cond.code y b maxL ret ∈ xgw) : GoodIn xgw (Cond.code y b maxL ret :: xgw) := fun w hw => by
  rcases List.mem_cons.mp hw with rfl | hw
  · exact ⟨h, xgw_good h⟩
  · exact ⟨hw, xgw_good hw⟩
/-- the part of the world that a callee may write is the caller's -/
theorem xA_free {A0 : Nat → Prop} {cy : Nat → ClassId} {ad : Nat → Nat} {I : xM} {R : xR} {n : Nat} {H0 H : Heap} {locs : List Loc} (hD : va_D A0 (xws cy ad I R n)) (hS : va_S A0 H0 H locs) (hA : ∀ q, H0.size ≤ q → A0 q) : ∀ q, va_A (xws cy ad I R n) H.size q → A0 q := by
  intro q h
  rcases h with ⟨k, e, hk⟩ | h
  · exact hD.2 k _ hk
  · exact hA q (Nat.le_trans hS.1 h)
theorem xPre_of {D : va_G} {cy : Nat → ClassId} {ad : Nat → Nat} {n : Nat} {I : xM} {R : xR} {B : Nat → Nat} {n0 : Nat} {A : Nat → Prop} {s U : State} {H : Heap} {locs : List Loc} (hK : va_K D vwCl (xty cy) s) (hE : xE B A s s.heap) (hA : ∀ q, s.heap.size ≤ q → A q) (hS : xSt D cy A B n0 s.heap n ad I R H locs) (hU : U.heap = H) (hW : s.WarmedH U.vm) : xPre D cy ad n I R H.size U := by
  obtain ⟨hP, hD, hSS, hAg⟩ := hS
  refine ⟨by rw [hU], by rw [hU]; exact hP, va_K.moved hW.alike hK, hD.weaken (fun _ _ _ _ => trivial), ?_⟩
  rw [hU]
  exact (((hE.warm hW).kept hSS.2.1).narrow (xA_free hD hSS hA)).base (fun i hi => hAg.2.1 i (Or.inr hi))
theorem xPre_blind {D : va_G} {cy : Nat → ClassId} {ad : Nat → Nat} {n : Nat} {I : xM} {R : xR} {sz : Nat} {vs : List Value} : FrameBlind (va_Pc vs (xPre D cy ad n I R sz)) := by
  intro a U g mk q
  obtain ⟨q0, q1, qP, qK, qD, qE⟩ := q
  exact ⟨q0, q1, qP, va_K.moved (u := U) (U := U.calling g mk a) (Vm.Alike.refl U.vm) qK, qD, (show xE ad (va_A (xws cy ad I R n) sz) (U.calling g mk a) U.heap from xE.same (s := U) (show U.vm = (U.calling g mk a).vm from rfl) qE)⟩
/-- a reference that stands for an object made already -/
def xvok (n : Nat) (v : Value) : Prop := match v with
  | .ref i => i < n ∨ 1000000 ≤ i
  | _ => True
theorem xcv_same {ad ad' : Nat → Nat} {n : Nat} {v : Value} (h : xvok n v) (hag : ∀ i, (i < n ∨ 1000000 ≤ i) → ad' i = ad i) : xcv ad' v = xcv ad v := by
  cases v <;> simp only [xcv]
  rw [hag _ h]
theorem xcv_map {ad ad' : Nat → Nat} {n : Nat} {st : List Value} (h : ∀ v ∈ st, xvok n v) (hag : ∀ i, (i < n ∨ 1000000 ≤ i) → ad' i = ad i) : st.map (xcv ad') = st.map (xcv ad) := List.map_congr_left fun v hv => xcv_same (h v hv) hag
theorem xcl_map {ad ad' : Nat → Nat} {n : Nat} {L : List (Nat × Value)} (h : ∀ q ∈ L, xvok n q.2) (hag : ∀ i, (i < n ∨ 1000000 ≤ i) → ad' i = ad i) : L.map (xcl ad') = L.map (xcl ad) := List.map_congr_left fun q hq => by unfold xcl; rw [xcv_same (h q hq) hag]
section
variable {X : xX} {own : String} {cc : ByteArray} {nL lv kc ks n cs sl pc : Nat} {I : xM} {R : xR} {L : List (Nat × Value)} {st stk : List Value}
variable {y : MethodName} {b : ByteArray} {maxL lvc mc ms np index : Nat} {ret : Option FieldType} {Post : xP} {as : List Value}
theorem xcb (hX : xOK X own cc nL lv kc ks) (hy : xMt y b maxL ret np) (hl : Cond.methodLink own index y ∈ xgw) (hlv : lvc + 1 ≤ lv) : CallB X.1.2.2.2.1 X.1.2.2.2.2.1 X.1.2.2.2.2.2.2.1 own index y b maxL ret (Cond.code y b maxL ret :: xgw) (xrm lvc mc ms) mc ms np := by
  obtain ⟨⟨p, l, e, Rm, s, m, args, below, meth, c⟩, Q, D, cy, A, B, n0, nL'⟩ := X
  obtain ⟨hx, hb, hml, hnl, hown, hts, hK, hA, hE, hfr, hlo, hce, hsl⟩ := hX
  obtain ⟨h1, h2, h3, h4⟩ := hy
  exact callB_of np hts (xgood_self h1) rfl rfl rfl (hts _ h2) (hts _ hl) h3 ⟨by show lvc + 1 ≤ Rm.frames; omega, by show 8 + (maxL + 11) + 64 * lvc ≤ Rm.locals; omega⟩
theorem xcn {host : String} (hX : xOK X own cc nL lv kc ks) (hy : xMt y b maxL ret np) (hl : Cond.methodLinkNest own index y host ∈ xnw) (hlv : lvc + 1 ≤ lv) : va_CN X.1.2.2.2.1 X.1.2.2.2.2.1 X.1.2.2.2.2.2.2.1 own index y host b maxL ret (Cond.code y b maxL ret :: xgw) (xrm lvc mc ms) mc ms np := by
  obtain ⟨⟨p, l, e, Rm, s, m, args, below, meth, c⟩, Q, D, cy, A, B, n0, nL'⟩ := X
  obtain ⟨hx, hb, hml, hnl, hown, hts, hK, hA, hE, hfr, hlo, hce, hsl⟩ := hX
  obtain ⟨h1, h2, h3, h4⟩ := hy
  exact va_cnB np hts (xgood_self h1) rfl rfl rfl (hE.1 _ hl) (hts _ h2) h3 ⟨by show lvc + 1 ≤ Rm.frames; omega, by show 8 + (maxL + 11) + 64 * lvc ≤ Rm.locals; omega⟩
/-- a call on an own object, that makes nothing -/
theorem g_callV (hX : xOK X own cc nL lv kc ks) {i c N : Nat} {C : String} {T : u_T} {ty : Nat → FieldType} (hM : ∀ l, xC l lvc mc ms y b maxL ret n (.ref i :: as) I R Post) (hy : xMt y b maxL ret np) (hv : xMv y) (hlk : xLm own index y) (hn : i < n) (hc : xK i = c) (hC : xCl c C T N ty) (hyC : y.cls = C) (hlen : as.length = np) (hd : decode cc pc = .ok (.invokevirtual index, 3)) (hst : stk = as.reverse ++ .ref i :: st) (hlv : lvc + 1 ≤ lv) (hroom : (st.map fun v => v.category).sum ≤ 8) (hcs : cs + mc ≤ kc) (hsl : sl + ms ≤ ks)
    (kk : ∀ (v : Option Value) (n' : Nat) (I' : xM) (R' : xR), Post v n' I' R' → n' = n ∧ G X n (cs + mc) (sl + ms) I' R' (pc + 3) L (v.toList ++ st)) : G X n cs sl I R pc L stk := by
  subst hst
  have hcb := fun h => xcb (X := X) (lvc := lvc) (mc := mc) (ms := ms) (index := index) hX hy h hlv
  have hcn := fun host h => xcn (X := X) (lvc := lvc) (mc := mc) (ms := ms) (index := index) (host := host) hX hy h hlv
  obtain ⟨⟨p, l, e, Rm, s, m, args, below, meth, c'⟩, Q, D, cy, A, B, n0, nL'⟩ := X
  obtain ⟨hx, hb, hml, rfl, hown, hts, hK, hA, hE, hfr, hlo, hce, hsl2⟩ := hX
  obtain ⟨q1, q2, q3, q4, q5, q6, q7⟩ := hC
  intro ad H locs ls hS hl
  have he : (xws cy ad I R n)[i]? = some (ad i, .inr (c, xfs ad (I i) (R i) c)) := by rw [xws_get hn, xe_obj hc q2]
  have hp : PreV s H C (ad i) (va_Pc ((Value.ref i :: as).map (xcv ad)) (xPre D cy ad n I R H.size)) (as.map (xcv ad)) :=
    ⟨xPre_blind, va_recv hK hS.1 q1 he, fun U hU hW => ⟨rfl, xPre_of hK hE hA hS hU hW⟩⟩
  have hsel : (Cond.selects C y y).before args s = true := by rw [← hyC]; exact hts _ hv.2
  have hstk : ((as.reverse ++ Value.ref i :: st).map (xcv ad)) = (as.map (xcv ad)).reverse ++ .ref (ad i) :: st.map (xcv ad) := by simp [xcv]
  have hrm : ((st.map (xcv ad)).map fun v => v.category).sum ≤ 8 := by
    rw [List.map_map]
    exact Nat.le_trans (Nat.le_of_eq (by congr 1; apply List.map_congr_left; intro v _; exact xcv_cat ad v)) hroom
  have hrun : va_Run p l e Rm s m args below meth c' H locs cs sl mc ms (F0 m pc ls (List.map (xcv ad) (as.reverse ++ Value.ref i :: st))) (st.map (xcv ad)) (xQ D cy (va_A (xws cy ad I R n) H.size) n ad Post ((Value.ref i :: as).map (xcv ad)).toArray) (va_A (xws cy ad I R n) H.size) := by
    rcases hlk with h | ⟨host, h⟩
    · exact va_runV (As := as.map (xcv ad)) (rest := st.map (xcv ad)) ⟨hx, hb, hml, hown, hts⟩ (hM l D cy ad H.size) ⟨hcb h, hts _ hv.1, hsel⟩ hp rfl (by rw [List.length_map]; exact hlen) hl.1 hstk (lv_room hrm) hd ⟨by omega, by omega⟩
    · exact va_runVN (As := as.map (xcv ad)) (rest := st.map (xcv ad)) ⟨hx, hb, hml, hown, hts⟩ (hM l D cy ad H.size) ⟨hcn host h, hts _ hv.1, hsel⟩ hp rfl (by rw [List.length_map]; exact hlen) hl.1 hstk (lv_room hrm) hd ⟨by omega, by omega⟩
  have hfree := xA_free hS.2.1 hS.2.2.1 hA
  refine x_call hrun hS.2.2.1 (fun q _ h => hfree q h) hfree (fun v ad' n' I' R' H1 locs1 hpost hP1 hD1 hag hz hS1 => ?_)
  obtain ⟨e1, w⟩ := kk v n' I' R' hpost
  subst e1
  have e2 : ad' = ad := hag.2.2 rfl
  subst e2
  have w2 := w ad' H1 locs1 ls ⟨hP1, xD_same hS.2.1, hS1, hS.2.2.2⟩ hl
  cases v <;> exact w2
/-- a static call that makes nothing -/
theorem g_callS (hX : xOK X own cc nL lv kc ks) (hM : ∀ l, xC l lvc mc ms y b maxL ret n as I R Post) (hy : xMt y b maxL ret np) (hv : Cond.static y ∈ xgw) (hlk : xLm own index y) (hlen : as.length = np) (hd : decode cc pc = .ok (.invokestatic index, 3)) (hst : stk = as.reverse ++ st) (hlv : lvc + 1 ≤ lv) (hroom : (st.map fun v => v.category).sum ≤ 8) (hcs : cs + mc ≤ kc) (hsl : sl + ms ≤ ks)
    (kk : ∀ (v : Option Value) (n' : Nat) (I' : xM) (R' : xR), Post v n' I' R' → n' = n ∧ G X n (cs + mc) (sl + ms) I' R' (pc + 3) L (v.toList ++ st)) : G X n cs sl I R pc L stk := by
  subst hst
  have hcb := fun h => xcb (X := X) (lvc := lvc) (mc := mc) (ms := ms) (index := index) hX hy h hlv
  have hcn := fun host h => xcn (X := X) (lvc := lvc) (mc := mc) (ms := ms) (index := index) (host := host) hX hy h hlv
  obtain ⟨⟨p, l, e, Rm, s, m, args, below, meth, c'⟩, Q, D, cy, A, B, n0, nL'⟩ := X
  obtain ⟨hx, hb, hml, rfl, hown, hts, hK, hA, hE, hfr, hlo, hce, hsl2⟩ := hX
  intro ad H locs ls hS hl
  have hp : PreS s H (va_Pc (as.map (xcv ad)) (xPre D cy ad n I R H.size)) (as.map (xcv ad)) :=
    ⟨xPre_blind, fun U hU hW => ⟨rfl, xPre_of hK hE hA hS hU hW⟩⟩
  have hstk : ((as.reverse ++ st).map (xcv ad)) = (as.map (xcv ad)).reverse ++ st.map (xcv ad) := by simp
  have hrm : ((st.map (xcv ad)).map fun v => v.category).sum ≤ 8 := by
    rw [List.map_map]
    exact Nat.le_trans (Nat.le_of_eq (by congr 1; apply List.map_congr_left; intro v _; exact xcv_cat ad v)) hroom
  have hrun : va_Run p l e Rm s m args below meth c' H locs cs sl mc ms (F0 m pc ls (List.map (xcv ad) (as.reverse ++ st))) (st.map (xcv ad)) (xQ D cy (va_A (xws cy ad I R n) H.size) n ad Post (as.map (xcv ad)).toArray) (va_A (xws cy ad I R n) H.size) := by
    rcases hlk with h | ⟨host, h⟩
    · exact va_runS (As := as.map (xcv ad)) (rest := st.map (xcv ad)) ⟨hx, hb, hml, hown, hts⟩ (hM l D cy ad H.size) ⟨hcb h, hts _ hv⟩ hp rfl (by rw [List.length_map]; exact hlen) hl.1 hstk (lv_room hrm) hd ⟨by omega, by omega⟩
    · exact va_runSN (As := as.map (xcv ad)) (rest := st.map (xcv ad)) ⟨hx, hb, hml, hown, hts⟩ (hM l D cy ad H.size) ⟨hcn host h, hts _ hv, trivial⟩ hp rfl (by rw [List.length_map]; exact hlen) hl.1 hstk (lv_room hrm) hd ⟨by omega, by omega⟩
  have hfree := xA_free hS.2.1 hS.2.2.1 hA
  refine x_call hrun hS.2.2.1 (fun q _ h => hfree q h) hfree (fun v ad' n' I' R' H1 locs1 hpost hP1 hD1 hag hz hS1 => ?_)
  obtain ⟨e1, w⟩ := kk v n' I' R' hpost
  subst e1
  have e2 : ad' = ad := hag.2.2 rfl
  subst e2
  have w2 := w ad' H1 locs1 ls ⟨hP1, xD_same hS.2.1, hS1, hS.2.2.2⟩ hl
  cases v <;> exact w2
end
