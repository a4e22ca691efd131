/-! THE MEMORY: every object has a number, given in the order of making; what it holds is told by its number and place -/
abbrev xM : Type := Nat → Nat → Int32
abbrev xR : Type := Nat → Nat → Option Nat
def xput (I : xM) (i k : Nat) (v : Int32) : xM := va_up I i (upd (I i) k v)
def xrow (I : xM) (i : Nat) (f : Nat → Int32) : xM := va_up I i f
def xputR (R : xR) (i k : Nat) (v : Option Nat) : xR := va_up R i (va_up (R i) k v)
/-- kinds: 0 .. 6 the own classes, 7 bytes, 8 ints, 9 booleans, 10 Garden[], 11 Row[] -/
def xK1 : List Nat := [5, 11, 1, 7, 3, 8, 4, 8, 0, 8, 8, 8, 8, 8, 8, 8, 8, 9, 0, 8, 8, 8, 8, 8, 8, 8, 8, 9, 10, 10, 9, 2, 8, 2, 8, 2, 8, 2, 8, 2, 8, 2, 8, 2, 8, 2, 8]
def xK2 : List Nat := [0, 8, 8, 8, 8, 8, 8, 8, 8, 9]
def xK3 : List Nat := [6, 8, 8, 8, 8, 8, 8, 8, 8, 9, 8, 8]
def xK (i : Nat) : Nat := if i < 47 then xK1.getD i 99 else if i < 307 then xK2.getD ((i - 47) % 10) 99 else xK3.getD (i - 307) 99
def xN1 : List Nat := [0, 8, 0, 400, 0, 20, 0, 16, 0, 20, 6, 6, 6, 6, 6, 6, 6, 6, 0, 20, 6, 6, 6, 6, 6, 6, 6, 6, 24, 2, 2, 0, 40, 0, 40, 0, 40, 0, 40, 0, 40, 0, 40, 0, 40, 0, 40]
def xN2 : List Nat := [0, 20, 6, 6, 6, 6, 6, 6, 6, 6]
def xN3 : List Nat := [0, 8, 8, 320, 74, 74, 1776, 400, 7, 2, 148, 16]
def xN (i : Nat) : Nat := if i < 47 then xN1.getD i 0 else if i < 307 then xN2.getD ((i - 47) % 10) 0 else xN3.getD (i - 307) 0
def xnf (c : Nat) : Nat := ([15, 8, 4, 1, 2, 14, 25] : List Nat).getD c 0
def xIR : List (List Nat) := [[0, 4, 5, 6, 7, 8, 10, 11, 12], [0], [3], [0], [0], [0, 1, 2, 3, 4, 5, 7, 10, 11], [2, 3, 4, 5, 6, 8, 10, 20, 21, 22, 23]]
def xir (c k : Nat) : Bool := (xIR.getD c []).contains k
def xrf (ad : Nat → Nat) (r : Option Nat) : Value := va_rf (r.map ad)
def xval (ad : Nat → Nat) (f : Nat → Int32) (r : Nat → Option Nat) (c k : Nat) : Value := if xir c k then xrf ad (r k) else .int (f k)
def xfs (ad : Nat → Nat) (f : Nat → Int32) (r : Nat → Option Nat) (c : Nat) : List Value := (List.range (xnf c)).map (xval ad f r c)
def xek (cy : Nat → ClassId) (ad : Nat → Nat) (f : Nat → Int32) (r : Nat → Option Nat) (c N : Nat) : va_E :=
  if c < 7 then .inr (c, xfs ad f r c) else if c < 10 then .inl (cy c, N, .inl f) else .inl (cy c, N, .inr (.inr (.inr (.inr (fun k => (r k).map ad)))))
def xe (cy : Nat → ClassId) (ad : Nat → Nat) (I : xM) (R : xR) (i : Nat) : va_E := xek cy ad (I i) (R i) (xK i) (xN i)
/-- the world of the first n objects -/
def xws (cy : Nat → ClassId) (ad : Nat → Nat) (I : xM) (R : xR) (n : Nat) : va_W := (List.range n).map (fun i => (ad i, xe cy ad I R i))
def xty (cy : Nat → ClassId) : List (ClassId × FieldType) := [(cy 7, .byte), (cy 8, .int), (cy 9, .boolean), (cy 10, .object RX0), (cy 11, .object RX2)]
theorem xws_get {cy : Nat → ClassId} {ad : Nat → Nat} {I : xM} {R : xR} {n i : Nat} (h : i < n) : (xws cy ad I R n)[i]? = some (ad i, xe cy ad I R i) := by
  simp [xws, h]
theorem xws_len {cy : Nat → ClassId} {ad : Nat → Nat} {I : xM} {R : xR} {n : Nat} : (xws cy ad I R n).length = n := by simp [xws]
theorem xws_lt {cy : Nat → ClassId} {ad : Nat → Nat} {I : xM} {R : xR} {n k : Nat} {q : Nat × va_E} (h : (xws cy ad I R n)[k]? = some q) : k < n ∧ q = (ad k, xe cy ad I R k) := by
  have hk := (List.getElem?_eq_some_iff.mp h).1
  rw [xws_len] at hk
  rw [xws_get hk] at h
  exact ⟨hk, (Option.some.inj h).symm⟩
theorem xws_set {cy : Nat → ClassId} {ad : Nat → Nat} {I I' : xM} {R R' : xR} {n i : Nat} {e : va_E} (h : i < n) (hI : ∀ j, j ≠ i → I' j = I j) (hR : ∀ j, j ≠ i → R' j = R j) (he : e = xe cy ad I' R' i) : (xws cy ad I R n).set i (ad i, e) = xws cy ad I' R' n := by
  apply List.ext_getElem?
  intro j
  by_cases hj : j = i
  · subst hj
    rw [List.getElem?_set_self (by rw [xws_len]; exact h), xws_get h, he]
  · rw [List.getElem?_set_ne (fun q => hj q.symm)]
    by_cases hn : j < n
    · rw [xws_get hn, xws_get hn]
      unfold xe
      rw [hI j hj, hR j hj]
    · rw [List.getElem?_eq_none (by rw [xws_len]; omega), List.getElem?_eq_none (by rw [xws_len]; omega)]
theorem xws_congr {cy : Nat → ClassId} {ad : Nat → Nat} {I I' : xM} {R R' : xR} {n : Nat} (h : ∀ i, i < n → xe cy ad I' R' i = xe cy ad I R i) : xws cy ad I' R' n = xws cy ad I R n := by
  unfold xws
  apply List.map_congr_left
  intro i hi
  rw [h i (List.mem_range.mp hi)]
theorem xD_same {A : Nat → Prop} {cy cy' : Nat → ClassId} {ad : Nat → Nat} {I I' : xM} {R R' : xR} {n : Nat} (h : va_D A (xws cy ad I R n)) : va_D A (xws cy' ad I' R' n) := by
  refine ⟨fun i j p q hp hq e => ?_, fun k q hk => ?_⟩
  · obtain ⟨h1, rfl⟩ := xws_lt hp
    obtain ⟨h2, rfl⟩ := xws_lt hq
    exact h.1 i j _ _ (xws_get h1) (xws_get h2) e
  · obtain ⟨h1, rfl⟩ := xws_lt hk
    exact h.2 k (ad k, xe cy ad I R k) (xws_get h1)
theorem xfs_get {ad : Nat → Nat} {f : Nat → Int32} {r : Nat → Option Nat} {c k : Nat} (h : k < xnf c) : (xfs ad f r c)[k]? = some (xval ad f r c k) := by
  simp [xfs, h]
theorem xfs_len {ad : Nat → Nat} {f : Nat → Int32} {r : Nat → Option Nat} {c : Nat} : (xfs ad f r c).length = xnf c := by simp [xfs]
theorem xfs_set {ad : Nat → Nat} {f f' : Nat → Int32} {r r' : Nat → Option Nat} {c k : Nat} {v : Value} (h : k < xnf c) (hf : ∀ j, j ≠ k → f' j = f j) (hr : ∀ j, j ≠ k → r' j = r j) (hv : v = xval ad f' r' c k) : (xfs ad f r c).set k v = xfs ad f' r' c := by
  apply List.ext_getElem?
  intro j
  by_cases hj : j = k
  · subst hj
    rw [List.getElem?_set_self (by rw [xfs_len]; exact h), xfs_get h, hv]
  · rw [List.getElem?_set_ne (fun q => hj q.symm)]
    by_cases hn : j < xnf c
    · rw [xfs_get hn, xfs_get hn]
      unfold xval
      rw [hf j hj, hr j hj]
    · rw [List.getElem?_eq_none (by rw [xfs_len]; omega), List.getElem?_eq_none (by rw [xfs_len]; omega)]
theorem xe_obj {cy : Nat → ClassId} {ad : Nat → Nat} {I : xM} {R : xR} {i c : Nat} (hc : xK i = c) (h : c < 7) : xe cy ad I R i = .inr (c, xfs ad (I i) (R i) c) := by
  subst hc; simp [xe, xek, h]
theorem xe_arr {cy : Nat → ClassId} {ad : Nat → Nat} {I : xM} {R : xR} {i c : Nat} (hc : xK i = c) (h : ¬ c < 7) (h2 : c < 10) : xe cy ad I R i = .inl (cy c, xN i, .inl (I i)) := by
  subst hc; simp [xe, xek, h, h2]
theorem xe_arq {cy : Nat → ClassId} {ad : Nat → Nat} {I : xM} {R : xR} {i c : Nat} (hc : xK i = c) (h2 : ¬ c < 10) : xe cy ad I R i = .inl (cy c, xN i, .inr (.inr (.inr (.inr (fun k => (R i k).map ad))))) := by
  subst hc; simp [xe, xek, h2, show ¬ xK i < 7 by omega]
/-! THE FRAME: values with numbers for references -/
def xcv (ad : Nat → Nat) (v : Value) : Value := match v with
  | .ref i => .ref (ad i)
  | v => v
def xcl (ad : Nat → Nat) (q : Nat × Value) : Nat × Value := (q.1, xcv ad q.2)
theorem xcv_cat (ad : Nat → Nat) (v : Value) : (xcv ad v).category = v.category := by cases v <;> rfl
theorem xcv_sl (ad : Nat → Nat) (vs : List Value) : (lg_sl (vs.map (xcv ad))).length = (lg_sl vs).length := by
  induction vs with
  | nil => rfl
  | cons v t ih =>
    simp only [lg_sl, List.map_cons, List.flatMap_cons, List.length_append] at ih ⊢
    rw [ih, xcv_cat]
    by_cases h : v.category = 2 <;> simp [h]
theorem xcl_args (ad : Nat → Nat) (vs : List Value) : ∀ k, lv_args k (vs.map (xcv ad)) = (lv_args k vs).map (xcl ad) := by
  induction vs with
  | nil => intro k; rfl
  | cons v t ih =>
    intro k
    simp only [List.map_cons, lv_args, xcv_cat]
    rw [ih]
    rfl
/-- the words that a contract asks for: all that can be asked, of the tables -/
def xgw : List Cond := lw_tbl.filter goodWord
theorem xgw_in {w : Cond} (h : w ∈ lw_tbl) (hg : goodWord w = true) : w ∈ xgw := List.mem_filter.mpr ⟨h, hg⟩
theorem xgw_tbl {w : Cond} (h : w ∈ xgw) : w ∈ lw_tbl := (List.mem_filter.mp h).1
theorem xgw_good {w : Cond} (h : w ∈ xgw) : (w.onTables && w.keeps) = true ∨ ∃ ty, w = .arrayClass ty := good_of_word (List.mem_filter.mp h).2
/-- links between nest mates -/
def xisN (w : Cond) : Bool := match w with
  | .methodLinkNest _ _ _ _ => true
  | .fieldLinkNest _ _ _ _ _ _ => true
  | _ => false
def xnw : List Cond := lw_tbl.filter xisN
theorem xnw_in {w : Cond} (h : w ∈ lw_tbl) (hg : xisN w = true) : w ∈ xnw := List.mem_filter.mpr ⟨h, hg⟩
theorem xnw_warm {w : Cond} (h : w ∈ xnw) {s U : State} (hW : s.WarmedH U.vm) (hZ : va_Nw w s) : va_Nw w U := by
  have h2 := (List.mem_filter.mp h).2
  cases w <;> simp [xisN] at h2
  · first | exact va_Nw.warmM hW hZ | exact va_Nw.warmF hW hZ
  · first | exact va_Nw.warmM hW hZ | exact va_Nw.warmF hW hZ
theorem xnw_same {w : Cond} (h : w ∈ xnw) {u U : State} (hv : u.vm = U.vm) (hZ : va_Nw w u) : va_Nw w U := by
  have h2 := (List.mem_filter.mp h).2
  cases w <;> simp [xisN] at h2
  · exact va_Nw.same rfl hv hZ
  · exact va_Nw.same rfl hv hZ
/-- the texts in the class files: entry, text, length, bytes -/
def xsi (i : Nat) : Nat := ([72, 49, 58, 124, 126, 128, 130, 132, 63, 116, 118] : List Nat).getD i 0
def xst (i : Nat) : String := (["ground", "lake", "tree", "ash", "yew", "oak", "hedge", "false", "thing", "show", "hide"] : List String).getD i ""
def xsl : List Nat := [6, 4, 4, 3, 3, 3, 5, 5, 5, 4, 4]
def xsb : List (List Int32) := [[103, 114, 111, 117, 110, 100], [108, 97, 107, 101], [116, 114, 101, 101], [97, 115, 104], [121, 101, 119], [111, 97, 107], [104, 101, 100, 103, 101], [102, 97, 108, 115, 101], [116, 104, 105, 110, 103], [115, 104, 111, 119], [104, 105, 100, 101]]
/-- what a walk finds beside its own world: links, texts, two statics -/
def xE (B : Nat → Nat) (A : Nat → Prop) (U : State) (H : Heap) : Prop :=
  (∀ w ∈ xnw, va_Nw w U) ∧ (∀ i, i < 11 → vk_R RX1 (xsi i) (xst i) (B (2000000 + i)) U) ∧ vk_S 11 xsl xsb (fun i => B (2000000 + i)) (fun i => B (3000000 + i)) A U H ∧
  va_Z "java/lang/String" "COMPACT_STRINGS" "Z" (.int 1) A U H ∧
  (va_Z "jdk/internal/util/Preconditions" "SIOOBE_FORMATTER" "Ljava/util/function/BiFunction;" .null A U H ∨ va_Z "jdk/internal/util/Preconditions" "SIOOBE_FORMATTER" "Ljava/util/function/BiFunction;" (.ref (B 4000000)) A U H)
theorem xE.warm {B : Nat → Nat} {A : Nat → Prop} {s U : State} {H : Heap} (hW : s.WarmedH U.vm) (h : xE B A s H) : xE B A U H :=
  ⟨fun w hw => xnw_warm hw hW (h.1 w hw), fun i hi => (h.2.1 i hi).warm hW, h.2.2.1.moved hW.alike, va_Z.moved hW.alike h.2.2.2.1, h.2.2.2.2.elim (fun z => Or.inl (va_Z.moved hW.alike z)) (fun z => Or.inr (va_Z.moved hW.alike z))⟩
theorem xE.same {B : Nat → Nat} {A : Nat → Prop} {s U : State} {H : Heap} (hv : s.vm = U.vm) (h : xE B A s H) : xE B A U H :=
  ⟨fun w hw => xnw_same hw hv (h.1 w hw), fun i hi => (h.2.1 i hi).same hv.symm, h.2.2.1.moved (by rw [hv]; exact Vm.Alike.refl _), va_Z.moved (by rw [hv]; exact Vm.Alike.refl _) h.2.2.2.1, h.2.2.2.2.elim (fun z => Or.inl (va_Z.moved (by rw [hv]; exact Vm.Alike.refl _) z)) (fun z => Or.inr (va_Z.moved (by rw [hv]; exact Vm.Alike.refl _) z))⟩
theorem xE.kept {B : Nat → Nat} {A : Nat → Prop} {U : State} {H H1 : Heap} (h : xE B A U H) (hq : ∀ a : Nat, a < H.size → ¬ A a → H1[a]? = H[a]?) : xE B A U H1 :=
  ⟨h.1, h.2.1, h.2.2.1.kept hq, h.2.2.2.1.kept hq, h.2.2.2.2.elim (fun z => Or.inl (z.kept hq)) (fun z => Or.inr (z.kept hq))⟩
theorem xE.narrow {B : Nat → Nat} {A A1 : Nat → Prop} {U : State} {H : Heap} (h : xE B A U H) (hA : ∀ q, A1 q → A q) : xE B A1 U H :=
  ⟨h.1, h.2.1, h.2.2.1.narrow hA, h.2.2.2.1.narrow hA, h.2.2.2.2.elim (fun z => Or.inl (z.narrow hA)) (fun z => Or.inr (z.narrow hA))⟩
theorem xE.base {B B' : Nat → Nat} {A : Nat → Prop} {U : State} {H : Heap} (h : xE B A U H) (hB : ∀ i, 1000000 ≤ i → B' i = B i) : xE B' A U H := by
  unfold xE
  rw [hB 4000000 (by omega), show (fun i => B' (2000000 + i)) = (fun i => B (2000000 + i)) from funext fun i => hB _ (by omega), show (fun i => B' (3000000 + i)) = (fun i => B (3000000 + i)) from funext fun i => hB _ (by omega)]
  refine ⟨h.1, fun i hi => ?_, h.2.2.1, h.2.2.2.1, h.2.2.2.2⟩
  rw [hB _ (by omega)]
  exact h.2.1 i hi
/-! THE JUDGEMENT -/
/-- the addresses as they were at the entry, but for what has been made since -/
def xAg (B : Nat → Nat) (n0 n : Nat) (ad : Nat → Nat) : Prop := n0 ≤ n ∧ (∀ i, (i < n0 ∨ 1000000 ≤ i) → ad i = B i) ∧ (n = n0 → ad = B)
theorem xAg.trans {B ad ad' : Nat → Nat} {n0 n n' : Nat} (h1 : xAg B n0 n ad) (h2 : xAg ad n n' ad') : xAg B n0 n' ad' :=
  ⟨Nat.le_trans h1.1 h2.1, fun i hi => (h2.2.1 i (hi.elim (fun z => Or.inl (Nat.lt_of_lt_of_le z h1.1)) Or.inr)).trans (h1.2.1 i hi), fun e => by
    have e1 : n = n0 := by have := h1.1; have := h2.1; omega
    rw [h2.2.2 (by omega), h1.2.2 e1]⟩
def xSt (D : va_G) (cy : Nat → ClassId) (A : Nat → Prop) (B : Nat → Nat) (n0 : Nat) (H0 : Heap) (n : Nat) (ad : Nat → Nat) (I : xM) (R : xR) (H : Heap) (locs : List Loc) : Prop :=
  va_P D vwCl (xws cy ad I R n) H ∧ va_D A (xws cy ad I R n) ∧ va_S A H0 H locs ∧ xAg B n0 n ad
abbrev xX : Type := (Program × Launch × Env × Room × State × MethodId × Array Value × List Frame × Method × Code) × ((State → Prop) × va_G × (Nat → ClassId) × (Nat → Prop) × (Nat → Nat) × Nat × Nat)
/-- the machine, at this place of this body, with this memory, comes to its end as it should -/
def G (X : xX) (n cs sl : Nat) (I : xM) (R : xR) (pc : Nat) (L : List (Nat × Value)) (st : List Value) : Prop :=
  match X with
  | ((p, l, e, Rm, s, m, args, below, meth, c), (Q, D, cy, A, B, n0, nL)) =>
    ∀ (ad : Nat → Nat) (H : Heap) (locs : List Loc) (ls : Array Slot), xSt D cy A B n0 s.heap n ad I R H locs → lv_has ls nL (L.map (xcl ad)) →
      W p l e Rm s m args below meth c H locs cs sl Q (F0 m pc ls (st.map (xcv ad)))
def xOK (X : xX) (own : String) (cc : ByteArray) (nL lv kc ks : Nat) : Prop :=
  match X with
  | ((p, _, _, Rm, s, m, args, _, _, c), (_, D, cy, A, B, _, nL')) =>
    p.tables.exec = Jvm.exec ∧ c.code = cc ∧ c.maxLocals = nL ∧ nL' = nL ∧ s.vm.findClass own = some m.cls ∧ (∀ w ∈ xgw, w.before args s = true) ∧ va_K D vwCl (xty cy) s ∧ (∀ q, s.heap.size ≤ q → A q) ∧ xE B A s s.heap ∧ lv ≤ Rm.frames ∧ 64 * lv ≤ Rm.locals ∧ kc ≤ Rm.cells ∧ ks ≤ Rm.slots
