/-! THE FIRST CONSTRUCTOR, which makes arrays of objects -/
def xPre2 (D : va_G) (cy : Nat → ClassId) (ad : Nat → Nat) (n : Nat) (I : xM) (R : xR) (sz : Nat) : State → Prop := fun U => xPre D cy ad n I R sz U ∧ va_AO RX0 U ∧ va_AO RX2 U
theorem xPre2_blind {D : va_G} {cy : Nat → ClassId} {ad : Nat → Nat} {n : Nat} {I : xM} {R : xR} {sz : Nat} {vs : List Value} : FrameBlind (va_Pc vs (xPre2 D cy ad n I R sz)) := by
  intro a U g mk q
  obtain ⟨q0, q1, q2, q3⟩ := q
  obtain ⟨r0, r1⟩ := xPre_blind (vs := vs) a U g mk ⟨q0, q1⟩
  exact ⟨r0, r1, va_AO.moved (u := U) (U := U.calling g mk a) (Vm.Alike.refl U.vm) q2, va_AO.moved (u := U) (U := U.calling g mk a) (Vm.Alike.refl U.vm) q3⟩
def xC2 (l : Launch) (lv mc ms : Nat) (y : MethodName) (b : ByteArray) (maxL : Nat) (ret : Option FieldType) (n : Nat) (vs : List Value) (I : xM) (R : xR) (Post : xP) : Prop :=
  ∀ (D : va_G) (cy : Nat → ClassId) (ad : Nat → Nat) (sz : Nat), Met l y (Cond.code y b maxL ret :: xgw) (xrm lv mc ms) (va_Pc (vs.map (xcv ad)) (xPre2 D cy ad n I R sz)) (xQ D cy (va_A (xws cy ad I R n) sz) n ad Post) mc ms (va_A (xws cy ad I R n) sz)
theorem xC2_of {l : Launch} {lv mc ms : Nat} {y : MethodName} {b : ByteArray} {maxL : Nat} {ret : Option FieldType} {n : Nat} {vs : List Value} {I : xM} {R : xR} {Post : xP} (hy : plainName y.cls = true) (hlen : (lg_sl vs).length ≤ maxL)
    (body : ∀ X : xX, X.1.2.1 = l → xOK X y.cls b maxL lv mc ms → va_AO RX0 X.1.2.2.2.2.1 → va_AO RX2 X.1.2.2.2.2.1 → xRt X y ret n Post mc ms → G X n 0 0 I R 0 (lv_args 0 vs) []) : xC2 l lv mc ms y b maxL ret n vs I R Post := by
  intro D cy ad sz
  refine Met.ofW (cc := b) (maxL := maxL) (ret := ret) hy rfl ?_
  intro p e s m args below meth c s₁ B hml hv
  obtain ⟨rfl, ⟨hsz, hP, hK, hD0, hE⟩, ha0, ha2⟩ := hv
  have hts := atoms_spec (ws := Cond.code y b maxL ret :: xgw) B.pre
  have hown : s.vm.findClass y.cls = some m.cls := findClass_of_methodNamed B.named
  have hin : meth.name = y.name := (name_of_methodNamed B.named B.method).1
  subst hsz
  have hD := hD0.self (sz := s.heap.size)
  have hA : ∀ q : Nat, s.heap.size ≤ q → va_A (xws cy ad I R n) s.heap.size q := fun q h => Or.inr h
  have hl := lv_entry (vs.map (xcv ad)) (n := maxL) (by rw [xcv_sl]; exact hlen)
  rw [xcl_args] at hl
  rw [lg_entry_eq]
  exact body ((p, l, e, (headSpec (Cond.code y b maxL ret :: xgw) (xrm lv mc ms)).room, s, m, (vs.map (xcv ad)).toArray, below, meth, c), (MQ below (xQ D cy (va_A (xws cy ad I R n) s.heap.size) n ad Post) (vs.map (xcv ad)).toArray s mc ms (va_A (xws cy ad I R n) s.heap.size), D, cy, va_A (xws cy ad I R n) s.heap.size, ad, n, maxL)) rfl
    ⟨B.exec, B.bytes, hml, rfl, hown, fun w h => hts w (List.mem_cons_of_mem _ h), hK, hA, hE, Nat.le_refl lv, Nat.le_refl (64 * lv), Nat.le_refl mc, Nat.le_refl ms⟩ ha0 ha2
    ⟨B.returns, B.notSynchronized, hin, rfl, rfl⟩ ad s.heap [] _ ⟨hP, hD, va_S.rf, Nat.le_refl _, fun _ _ => rfl, fun _ => rfl⟩ hl
section
variable {X : xX} {own : String} {cc : ByteArray} {nL lv kc ks n cs sl pc : Nat} {I : xM} {R : xR} {L : List (Nat × Value)} {st : List Value}
variable {y : MethodName} {b : ByteArray} {maxL lvc mc ms index o : Nat} {Post : xP}
theorem g_callI2 (hX : xOK X own cc nL lv kc ks) (ha0 : va_AO RX0 X.1.2.2.2.2.1) (ha2 : va_AO RX2 X.1.2.2.2.2.1) (hM : ∀ l, xC2 l lvc mc ms y b maxL none n [.ref o] I R Post) (hy : xMt y b maxL none 0) (hin : y.name = "<init>") (hi : Cond.instanceMethod y ∈ xgw) (hlk : xLm own index y) (hd : decode cc pc = .ok (.invokespecial index, 3)) (hlv : lvc + 1 ≤ lv) (hroom : (st.map fun v => v.category).sum ≤ 8) (hcs : cs + mc ≤ kc) (hsl : sl + ms ≤ ks) (hL : ∀ q ∈ L, xvok n q.2) (hst : ∀ v ∈ st, xvok n v)
    (kk : ∀ (v : Option Value) (n' : Nat) (I' : xM) (R' : xR), Post v n' I' R' → v = none ∧ G X n' (cs + mc) (sl + ms) I' R' (pc + 3) L st) : G X n cs sl I R pc L (.ref o :: st) := by
  have hcb := fun h => xcb (X := X) (lvc := lvc) (mc := mc) (ms := ms) (index := index) hX hy h hlv
  have hcn := fun host h => xcn (X := X) (lvc := lvc) (mc := mc) (ms := ms) (index := index) (host := host) hX hy h hlv
  obtain ⟨⟨p, l, e, Rm, s, m, args, below, meth, c'⟩, Q, D, cy, A, B, n0, nL'⟩ := X
  obtain ⟨hx, hb, hml, rfl, hown, hts, hK, hA, hE, hfr, hlo, hce, hsl2⟩ := hX
  intro ad H locs ls hS hl
  have hp : PreS s H (va_Pc (([.ref o] : List Value).map (xcv ad)) (xPre2 D cy ad n I R H.size)) (.ref (ad o) :: []) :=
    ⟨xPre2_blind, fun U hU hW => ⟨rfl, xPre_of hK hE hA hS hU hW, va_AO.moved hW.alike ha0, va_AO.moved hW.alike ha2⟩⟩
  have hrm : ((st.map (xcv ad)).map fun v => v.category).sum ≤ 8 := by
    rw [List.map_map]
    exact Nat.le_trans (Nat.le_of_eq (by congr 1; apply List.map_congr_left; intro v _; exact xcv_cat ad v)) hroom
  have hrun : va_Run p l e Rm s m args below meth c' H locs cs sl mc ms (F0 m pc ls (List.map (xcv ad) (.ref o :: st))) (st.map (xcv ad)) (xQ D cy (va_A (xws cy ad I R n) H.size) n ad Post (([.ref o] : List Value).map (xcv ad)).toArray) (va_A (xws cy ad I R n) H.size) := by
    rcases hlk with h | ⟨host, h⟩
    · exact va_runI (As := []) (rest := st.map (xcv ad)) ⟨hx, hb, hml, hown, hts⟩ (hM l D cy ad H.size) ⟨hcb h, hin, hts _ hi⟩ hp rfl rfl hl.1 rfl (lv_room hrm) hd ⟨by omega, by omega⟩
    · exact va_runIN (As := []) (rest := st.map (xcv ad)) ⟨hx, hb, hml, hown, hts⟩ (hM l D cy ad H.size) ⟨hcn host h, hin, hts _ hi⟩ hp rfl rfl hl.1 rfl (lv_room hrm) hd ⟨by omega, by omega⟩
  have hfree := xA_free hS.2.1 hS.2.2.1 hA
  refine x_call hrun hS.2.2.1 (fun q _ h => hfree q h) hfree (fun v ad' n' I' R' H1 locs1 hpost hP1 hD1 hag hz hS1 => ?_)
  obtain ⟨rfl, w⟩ := kk v n' I' R' hpost
  have w2 := w ad' H1 locs1 ls ⟨hP1, hD1.weaken (fun _ _ _ h => hfree _ h), hS1, hS.2.2.2.trans hag⟩ (by rw [xcl_map hL (fun i hi => hag.2.1 i hi)]; exact hl)
  rw [xcv_map hst (fun i hi => hag.2.1 i hi)] at w2
  exact w2
end
theorem mx_in5 {I : xM} {R : xR} (hI : I 0 = fun _ => 0) (hR : R 0 = fun _ => none) : xEq 1 I R (mxI I 0) (mxR R 0 0 0 0 0) := by
  intro i hi
  obtain rfl : i = 0 := by omega
  refine ⟨fun _ k _ => ⟨?_, ?_⟩, fun h => absurd h (by decide), fun h => absurd h (by decide)⟩
  · rw [hI, mxI_ge (Nat.le_refl 0), Ifin_0 (by decide) (by decide)]
  · rw [hR]; exact mxR_n (by omega) (Or.inl ⟨rfl, Nat.zero_le k⟩)
theorem mx_rok5 {R : xR} : xRok 1 (mxR R 0 0 0 0 0) := by
  intro i k j hi he
  obtain rfl : i = 0 := by omega
  rw [mxR_n (by omega) (Or.inl ⟨rfl, Nat.zero_le k⟩)] at he
  cases he
theorem nW0 : (∀ j, j < 15 → defaultValue (tyX0 j) = if xir 0 j then .null else .int 0) := by decide
theorem nW1 : (∀ j, j < 8 → defaultValue (tyX1 j) = if xir 1 j then .null else .int 0) := by decide
theorem nW2 : (∀ j, j < 4 → defaultValue (tyX2 j) = if xir 2 j then .null else .int 0) := by decide
theorem nW3 : (∀ j, j < 1 → defaultValue (tyX3 j) = if xir 3 j then .null else .int 0) := by decide
theorem nW4 : (∀ j, j < 2 → defaultValue (tyX4 j) = if xir 4 j then .null else .int 0) := by decide
theorem nW5 : (∀ j, j < 14 → defaultValue (tyX5 j) = if xir 5 j then .null else .int 0) := by decide
theorem nW6 : (∀ j, j < 25 → defaultValue (tyX6 j) = if xir 6 j then .null else .int 0) := by decide
