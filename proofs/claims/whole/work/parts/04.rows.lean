section
variable {X : xX} {own : String} {cc : ByteArray} {nL lv kc ks n cs sl pc : Nat} {I : xM} {R : xR} {L : List (Nat × Value)} {st : List Value}
theorem G_pure (hX : xOK X own cc nL lv kc ks) {pc' : Nat} {st' : List Value}
    (h : ∀ {p : Program} {l : Launch} {e : Env} {Rm : Room} {s : State} {m : MethodId} {args : Array Value} {below : List Frame} {meth : Method} {c : Code} {H : Heap} {locs : List Loc} {ls : Array Slot} {Q : State → Prop} (ad : Nat → Nat),
      p.tables.exec = Jvm.exec → c.code = cc → s.vm.findClass own = some m.cls → (∀ w ∈ xgw, w.before args s = true) → W p l e Rm s m args below meth c H locs cs sl Q (F0 m pc' ls (st'.map (xcv ad))) → W p l e Rm s m args below meth c H locs cs sl Q (F0 m pc ls (st.map (xcv ad))))
    (k : G X n cs sl I R pc' L st') : G X n cs sl I R pc L st := by
  obtain ⟨⟨p, l, e, Rm, s, m, args, below, meth, c⟩, Q, D, cy, A, B, n0, nL'⟩ := X
  obtain ⟨hx, hb, hml, hnl, hown, hts, hK, hA, hE, -⟩ := hX
  intro ad H locs ls hS hl
  exact h ad hx hb hown hts (k ad H locs ls hS hl)
theorem G_br (hX : xOK X own cc nL lv kc ks) {tgt : Nat} {st' : List Value} {P : Prop}
    (h : ∀ {p : Program} {l : Launch} {e : Env} {Rm : Room} {s : State} {m : MethodId} {args : Array Value} {below : List Frame} {meth : Method} {c : Code} {H : Heap} {locs : List Loc} {ls : Array Slot} {Q : State → Prop} (ad : Nat → Nat),
      p.tables.exec = Jvm.exec → c.code = cc → (P → W p l e Rm s m args below meth c H locs cs sl Q (F0 m tgt ls (st'.map (xcv ad)))) → (¬ P → W p l e Rm s m args below meth c H locs cs sl Q (F0 m (pc + 3) ls (st'.map (xcv ad)))) → W p l e Rm s m args below meth c H locs cs sl Q (F0 m pc ls (st.map (xcv ad))))
    (kt : P → G X n cs sl I R tgt L st') (kf : ¬ P → G X n cs sl I R (pc + 3) L st') : G X n cs sl I R pc L st := by
  obtain ⟨⟨p, l, e, Rm, s, m, args, below, meth, c⟩, Q, D, cy, A, B, n0, nL'⟩ := X
  obtain ⟨hx, hb, hml, hnl, hown, hts, hK, hA, hE, -⟩ := hX
  intro ad H locs ls hS hl
  exact h ad hx hb (fun c => kt c ad H locs ls hS hl) (fun c => kf c ad H locs ls hS hl)
theorem G_ld (hX : xOK X own cc nL lv kc ks) {pc' i j : Nat} {st' : List Value} {v : Value} (hj : L[j]? = some (i, v))
    (h : ∀ {p : Program} {l : Launch} {e : Env} {Rm : Room} {s : State} {m : MethodId} {args : Array Value} {below : List Frame} {meth : Method} {c : Code} {H : Heap} {locs : List Loc} {ls : Array Slot} {Q : State → Prop} (ad : Nat → Nat),
      p.tables.exec = Jvm.exec → c.code = cc → ls[i]? = some (.val (xcv ad v)) → W p l e Rm s m args below meth c H locs cs sl Q (F0 m pc' ls (st'.map (xcv ad))) → W p l e Rm s m args below meth c H locs cs sl Q (F0 m pc ls (st.map (xcv ad))))
    (k : G X n cs sl I R pc' L st') : G X n cs sl I R pc L st := by
  obtain ⟨⟨p, l, e, Rm, s, m, args, below, meth, c⟩, Q, D, cy, A, B, n0, nL'⟩ := X
  obtain ⟨hx, hb, hml, hnl, hown, hts, hK, hA, hE, -⟩ := hX
  intro ad H locs ls hS hl
  refine h ad hx hb (lv_at hl j ?_) (k ad H locs ls hS hl)
  rw [List.getElem?_map, hj]
  rfl
def xlset (L : List (Nat × Value)) (i : Nat) (v : Value) : List (Nat × Value) := L.filter (fun q => decide (q.1 < i) && !(q.1 + 1 == i && q.2.category == 2)) ++ (i, v) :: L.filter (fun q => decide (i < q.1) && !(v.category == 2 && q.1 == i + 1))
theorem xlset_ok {ls : Array Slot} {nL : Nat} {ad : Nat → Nat} {L L' : List (Nat × Value)} {i : Nat} {v : Value} {lv' : List (Nat × Value)} (hv : v.category = 1) (hL : xlset L i v = L') (hl' : (i, xcv ad v) :: (L.map (xcl ad)).filter (fun q => !(q.1 == i) && !(q.1 + 1 == i && q.2.category == 2)) = lv') (h : lv_has ls nL lv') : lv_has ls nL (L'.map (xcl ad)) := by
  subst hL; subst hl'
  refine ⟨h.1, h.2.1, fun q hq => h.2.2 q ?_⟩
  obtain ⟨q0, h0, rfl⟩ := List.mem_map.mp hq
  rcases List.mem_append.mp h0 with h1 | h1
  · obtain ⟨h2, h3⟩ := List.mem_filter.mp h1
    refine List.mem_cons_of_mem _ (List.mem_filter.mpr ⟨List.mem_map.mpr ⟨q0, h2, rfl⟩, ?_⟩)
    simp only [xcl, xcv_cat]
    simp only [Bool.and_eq_true, decide_eq_true_eq] at h3
    simp [h3.2, show ¬ q0.1 = i by omega]
  · rcases List.mem_cons.mp h1 with rfl | h1
    · exact List.mem_cons_self
    · obtain ⟨h2, h3⟩ := List.mem_filter.mp h1
      refine List.mem_cons_of_mem _ (List.mem_filter.mpr ⟨List.mem_map.mpr ⟨q0, h2, rfl⟩, ?_⟩)
      simp only [xcl, xcv_cat]
      simp only [Bool.and_eq_true, decide_eq_true_eq] at h3
      simp [show ¬ q0.1 = i by omega, show ¬ q0.1 + 1 = i by omega]
theorem xlset_ok2 {ls : Array Slot} {nL : Nat} {ad : Nat → Nat} {L L' : List (Nat × Value)} {i : Nat} {v : Value} {lv' : List (Nat × Value)} (hv : v.category = 2) (hL : xlset L i v = L') (hl' : (i, xcv ad v) :: (L.map (xcl ad)).filter (fun q => !(q.1 == i) && (!(q.1 == i + 1) && !(q.1 + 1 == i && q.2.category == 2))) = lv') (h : lv_has ls nL lv') : lv_has ls nL (L'.map (xcl ad)) := by
  subst hL; subst hl'
  refine ⟨h.1, h.2.1, fun q hq => h.2.2 q ?_⟩
  obtain ⟨q0, h0, rfl⟩ := List.mem_map.mp hq
  rcases List.mem_append.mp h0 with h1 | h1
  · obtain ⟨h2, h3⟩ := List.mem_filter.mp h1
    refine List.mem_cons_of_mem _ (List.mem_filter.mpr ⟨List.mem_map.mpr ⟨q0, h2, rfl⟩, ?_⟩)
    simp only [xcl, xcv_cat]
    simp only [Bool.and_eq_true, decide_eq_true_eq] at h3
    simp [show ¬ q0.1 = i by omega, show ¬ q0.1 = i + 1 by omega]
    simpa using h3.2
  · rcases List.mem_cons.mp h1 with rfl | h1
    · exact List.mem_cons_self
    · obtain ⟨h2, h3⟩ := List.mem_filter.mp h1
      refine List.mem_cons_of_mem _ (List.mem_filter.mpr ⟨List.mem_map.mpr ⟨q0, h2, rfl⟩, ?_⟩)
      simp only [xcl, xcv_cat]
      simp only [Bool.and_eq_true, decide_eq_true_eq, hv] at h3
      simp [show ¬ q0.1 = i by omega, show ¬ q0.1 + 1 = i by omega]
      simpa using h3.2
/-- the locals that aren't wanted any more -/
theorem g_loc {L' : List (Nat × Value)} (is : List Nat) (h : is.filterMap (fun i => L[i]?) = L') (k : G X n cs sl I R pc L' st) : G X n cs sl I R pc L st := by
  obtain ⟨⟨p, l, e, Rm, s, m, args, below, meth, c⟩, Q, D, cy, A, B, n0, nL'⟩ := X
  intro ad H locs ls hS hl
  refine k ad H locs ls hS (lv_sub hl is ?_)
  subst h
  simp [lv_pick, List.map_filterMap]
theorem g_widen {cs' sl' : Nat} (h1 : cs ≤ cs') (h2 : sl ≤ sl') (k : G X n cs' sl' I R pc L st) : G X n cs sl I R pc L st := by
  obtain ⟨⟨p, l, e, Rm, s, m, args, below, meth, c⟩, Q, D, cy, A, B, n0, nL'⟩ := X
  intro ad H locs ls hS hl
  exact W.widen h1 h2 (k ad H locs ls hS hl)
/-- the same, told otherwise -/
theorem g_st {st' : List Value} (h : st = st') (k : G X n cs sl I R pc L st') : G X n cs sl I R pc L st := by subst h; exact k
theorem g_top {x y : Int32} (h : x = y) (k : G X n cs sl I R pc L (.int y :: st)) : G X n cs sl I R pc L (.int x :: st) := by subst h; exact k
theorem g_L {L' : List (Nat × Value)} (h : L = L') (k : G X n cs sl I R pc L' st) : G X n cs sl I R pc L st := by subst h; exact k
theorem g_mem {I' : xM} (h : I = I') (k : G X n cs sl I' R pc L st) : G X n cs sl I R pc L st := by subst h; exact k
theorem g_ref {R' : xR} (h : R = R') (k : G X n cs sl I R' pc L st) : G X n cs sl I R pc L st := by subst h; exact k
theorem g_nm {x : Int32} (k : ∀ y : Int32, y = x → G X n cs sl I R pc L (.int y :: st)) : G X n cs sl I R pc L (.int x :: st) := k x rfl
theorem g_nml {x : Int64} (k : ∀ y : Int64, y = x → G X n cs sl I R pc L (.long y :: st)) : G X n cs sl I R pc L (.long x :: st) := k x rfl
theorem g_nmm (k : ∀ J : xM, J = I → G X n cs sl J R pc L st) : G X n cs sl I R pc L st := k I rfl
theorem g_iconst (hX : xOK X own cc nL lv kc ks) {z : Int} {v : Int32} (hd : decode cc pc = .ok (.iconst z, 1)) (hv : Int32.ofInt z = v) (k : G X n cs sl I R (pc + 1) L (.int v :: st)) : G X n cs sl I R pc L (st) := G_pure hX (fun ad hx hb _ _ q => lv_iconst hx hb hd hv q) k
theorem g_bipush (hX : xOK X own cc nL lv kc ks) {z : Int} {v : Int32} (hd : decode cc pc = .ok (.bipush z, 2)) (hv : (Int8.ofInt z).toInt32 = v) (k : G X n cs sl I R (pc + 2) L (.int v :: st)) : G X n cs sl I R pc L (st) := G_pure hX (fun ad hx hb _ _ q => lv_bipush hx hb hd hv q) k
theorem g_sipush (hX : xOK X own cc nL lv kc ks) {z : Int} {v : Int32} (hd : decode cc pc = .ok (.sipush z, 3)) (hv : (Int16.ofInt z).toInt32 = v) (k : G X n cs sl I R (pc + 3) L (.int v :: st)) : G X n cs sl I R pc L (st) := G_pure hX (fun ad hx hb _ _ q => lv_sipush hx hb hd hv q) k
theorem g_lconst (hX : xOK X own cc nL lv kc ks) {z : Fin 2} {v : Int64} (hd : decode cc pc = .ok (.lconst z, 1)) (hv : Int64.ofNat (z : Nat) = v) (k : G X n cs sl I R (pc + 1) L (.long v :: st)) : G X n cs sl I R pc L (st) := G_pure hX (fun ad hx hb _ _ q => lv_lconst hx hb hd hv q) k
theorem g_iadd (hX : xOK X own cc nL lv kc ks) {x y v : Int32} (hd : decode cc pc = .ok (.iadd, 1)) (hv : x + y = v) (k : G X n cs sl I R (pc + 1) L (.int v :: st)) : G X n cs sl I R pc L (.int y :: .int x :: st) := G_pure hX (fun ad hx hb _ _ q => by subst hv; exact lv_iadd hx hb hd q) k
theorem g_isub (hX : xOK X own cc nL lv kc ks) {x y v : Int32} (hd : decode cc pc = .ok (.isub, 1)) (hv : x - y = v) (k : G X n cs sl I R (pc + 1) L (.int v :: st)) : G X n cs sl I R pc L (.int y :: .int x :: st) := G_pure hX (fun ad hx hb _ _ q => by subst hv; exact lv_isub hx hb hd q) k
theorem g_imul (hX : xOK X own cc nL lv kc ks) {x y v : Int32} (hd : decode cc pc = .ok (.imul, 1)) (hv : x * y = v) (k : G X n cs sl I R (pc + 1) L (.int v :: st)) : G X n cs sl I R pc L (.int y :: .int x :: st) := G_pure hX (fun ad hx hb _ _ q => by subst hv; exact lv_imul hx hb hd q) k
theorem g_idiv (hX : xOK X own cc nL lv kc ks) {x y v : Int32} (hd : decode cc pc = .ok (.idiv, 1)) (hne : ¬ y = 0) (hv : x / y = v) (k : G X n cs sl I R (pc + 1) L (.int v :: st)) : G X n cs sl I R pc L (.int y :: .int x :: st) := G_pure hX (fun ad hx hb _ _ q => by subst hv; exact lv_idiv hx hb hd hne q) k
theorem g_iand (hX : xOK X own cc nL lv kc ks) {x y v : Int32} (hd : decode cc pc = .ok (.iand, 1)) (hv : x &&& y = v) (k : G X n cs sl I R (pc + 1) L (.int v :: st)) : G X n cs sl I R pc L (.int y :: .int x :: st) := G_pure hX (fun ad hx hb _ _ q => by subst hv; exact lv_iand hx hb hd q) k
theorem g_ior (hX : xOK X own cc nL lv kc ks) {x y v : Int32} (hd : decode cc pc = .ok (.ior, 1)) (hv : x ||| y = v) (k : G X n cs sl I R (pc + 1) L (.int v :: st)) : G X n cs sl I R pc L (.int y :: .int x :: st) := G_pure hX (fun ad hx hb _ _ q => by subst hv; exact lv_ior hx hb hd q) k
theorem g_ixor (hX : xOK X own cc nL lv kc ks) {x y v : Int32} (hd : decode cc pc = .ok (.ixor, 1)) (hv : x ^^^ y = v) (k : G X n cs sl I R (pc + 1) L (.int v :: st)) : G X n cs sl I R pc L (.int y :: .int x :: st) := G_pure hX (fun ad hx hb _ _ q => by subst hv; exact lv_ixor hx hb hd q) k
theorem g_ineg (hX : xOK X own cc nL lv kc ks) {x v : Int32} (hd : decode cc pc = .ok (.ineg, 1)) (hv : -x = v) (k : G X n cs sl I R (pc + 1) L (.int v :: st)) : G X n cs sl I R pc L (.int x :: st) := G_pure hX (fun ad hx hb _ _ q => by subst hv; exact lv_ineg hx hb hd q) k
theorem g_ishl (hX : xOK X own cc nL lv kc ks) {x y v : Int32} (hd : decode cc pc = .ok (.ishl, 1)) (hv : x <<< (y &&& 31) = v) (k : G X n cs sl I R (pc + 1) L (.int v :: st)) : G X n cs sl I R pc L (.int y :: .int x :: st) := G_pure hX (fun ad hx hb _ _ q => by subst hv; exact lv_ishl hx hb hd q) k
theorem g_ishr (hX : xOK X own cc nL lv kc ks) {x y v : Int32} (hd : decode cc pc = .ok (.ishr, 1)) (hv : x >>> (y &&& 31) = v) (k : G X n cs sl I R (pc + 1) L (.int v :: st)) : G X n cs sl I R pc L (.int y :: .int x :: st) := G_pure hX (fun ad hx hb _ _ q => by subst hv; exact lv_ishr hx hb hd q) k
theorem g_i2l (hX : xOK X own cc nL lv kc ks) {x : Int32} {v : Int64} (hd : decode cc pc = .ok (.i2l, 1)) (hv : x.toInt64 = v) (k : G X n cs sl I R (pc + 1) L (.long v :: st)) : G X n cs sl I R pc L (.int x :: st) := G_pure hX (fun ad hx hb _ _ q => lv_i2l hx hb hd hv q) k
theorem g_l2i (hX : xOK X own cc nL lv kc ks) {x : Int64} {v : Int32} (hd : decode cc pc = .ok (.l2i, 1)) (hv : x.toInt32 = v) (k : G X n cs sl I R (pc + 1) L (.int v :: st)) : G X n cs sl I R pc L (.long x :: st) := G_pure hX (fun ad hx hb _ _ q => lv_l2i hx hb hd hv q) k
theorem g_i2b (hX : xOK X own cc nL lv kc ks) {x v : Int32} (hd : decode cc pc = .ok (.i2b, 1)) (hv : x.toInt8.toInt32 = v) (k : G X n cs sl I R (pc + 1) L (.int v :: st)) : G X n cs sl I R pc L (.int x :: st) := G_pure hX (fun ad hx hb _ _ q => lv_i2b hx hb hd hv q) k
theorem g_i2s (hX : xOK X own cc nL lv kc ks) {x v : Int32} (hd : decode cc pc = .ok (.i2s, 1)) (hv : x.toInt16.toInt32 = v) (k : G X n cs sl I R (pc + 1) L (.int v :: st)) : G X n cs sl I R pc L (.int x :: st) := G_pure hX (fun ad hx hb _ _ q => lv_i2s hx hb hd hv q) k
theorem g_i2c (hX : xOK X own cc nL lv kc ks) {x v : Int32} (hd : decode cc pc = .ok (.i2c, 1)) (hv : (x.toUInt32 % 65536).toInt32 = v) (k : G X n cs sl I R (pc + 1) L (.int v :: st)) : G X n cs sl I R pc L (.int x :: st) := G_pure hX (fun ad hx hb _ _ q => lv_i2c hx hb hd hv q) k
theorem g_ladd (hX : xOK X own cc nL lv kc ks) {x y v : Int64} (hd : decode cc pc = .ok (.ladd, 1)) (hv : x + y = v) (k : G X n cs sl I R (pc + 1) L (.long v :: st)) : G X n cs sl I R pc L (.long y :: .long x :: st) := G_pure hX (fun ad hx hb _ _ q => by subst hv; exact lv_ladd hx hb hd q) k
theorem g_lsub (hX : xOK X own cc nL lv kc ks) {x y v : Int64} (hd : decode cc pc = .ok (.lsub, 1)) (hv : x - y = v) (k : G X n cs sl I R (pc + 1) L (.long v :: st)) : G X n cs sl I R pc L (.long y :: .long x :: st) := G_pure hX (fun ad hx hb _ _ q => by subst hv; exact lv_lsub hx hb hd q) k
theorem g_land (hX : xOK X own cc nL lv kc ks) {x y v : Int64} (hd : decode cc pc = .ok (.land, 1)) (hv : x &&& y = v) (k : G X n cs sl I R (pc + 1) L (.long v :: st)) : G X n cs sl I R pc L (.long y :: .long x :: st) := G_pure hX (fun ad hx hb _ _ q => by subst hv; exact lv_land hx hb hd q) k
theorem g_lor (hX : xOK X own cc nL lv kc ks) {x y v : Int64} (hd : decode cc pc = .ok (.lor, 1)) (hv : x ||| y = v) (k : G X n cs sl I R (pc + 1) L (.long v :: st)) : G X n cs sl I R pc L (.long y :: .long x :: st) := G_pure hX (fun ad hx hb _ _ q => by subst hv; exact lv_lor hx hb hd q) k
theorem g_lushr (hX : xOK X own cc nL lv kc ks) {x : Int64} {y : Int32} {v : Int64} (hd : decode cc pc = .ok (.lushr, 1)) (hv : (x.toUInt64 >>> (y.toInt64.toUInt64 &&& Int64.toUInt64 63)).toInt64 = v) (k : G X n cs sl I R (pc + 1) L (.long v :: st)) : G X n cs sl I R pc L (.int y :: .long x :: st) := G_pure hX (fun ad hx hb _ _ q => lv_lushr hx hb hd hv q) k
theorem g_lshl (hX : xOK X own cc nL lv kc ks) {x : Int64} {y : Int32} {v : Int64} (hd : decode cc pc = .ok (.lshl, 1)) (hv : x <<< (y.toInt64 &&& 63) = v) (k : G X n cs sl I R (pc + 1) L (.long v :: st)) : G X n cs sl I R pc L (.int y :: .long x :: st) := G_pure hX (fun ad hx hb _ _ q => lv_lshl hx hb hd hv q) k
theorem g_lshr (hX : xOK X own cc nL lv kc ks) {x : Int64} {y : Int32} {v : Int64} (hd : decode cc pc = .ok (.lshr, 1)) (hv : x >>> (y.toInt64 &&& 63) = v) (k : G X n cs sl I R (pc + 1) L (.long v :: st)) : G X n cs sl I R pc L (.int y :: .long x :: st) := G_pure hX (fun ad hx hb _ _ q => lv_lshr hx hb hd hv q) k
theorem g_lcmp (hX : xOK X own cc nL lv kc ks) {x y : Int64} {v : Int32} (hd : decode cc pc = .ok (.lcmp, 1)) (hv : lg_cmp x y = v) (k : G X n cs sl I R (pc + 1) L (.int v :: st)) : G X n cs sl I R pc L (.long y :: .long x :: st) := G_pure hX (fun ad hx hb _ _ q => by subst hv; exact W.lcmp hx hb hd q) k
theorem g_dup (hX : xOK X own cc nL lv kc ks) {a : Value} (hc : a.category = 1) (hd : decode cc pc = .ok (.dup, 1))  (k : G X n cs sl I R (pc + 1) L (a :: a :: st)) : G X n cs sl I R pc L (a :: st) := G_pure hX (fun ad hx hb _ _ q => lv_dup hx hb hd (by rw [xcv_cat]; exact hc) q) k
theorem g_dup_x1 (hX : xOK X own cc nL lv kc ks) {a b : Value} (hc : a.category = 1) (hc2 : b.category = 1) (hd : decode cc pc = .ok (.dup_x1, 1))  (k : G X n cs sl I R (pc + 1) L (a :: b :: a :: st)) : G X n cs sl I R pc L (a :: b :: st) := G_pure hX (fun ad hx hb _ _ q => lv_dup_x1 hx hb hd (by rw [xcv_cat]; exact hc) (by rw [xcv_cat]; exact hc2) q) k
theorem g_dup_x2 (hX : xOK X own cc nL lv kc ks) {a b d : Value} (hc : a.category = 1) (hc2 : b.category = 1) (hc3 : d.category = 1) (hd : decode cc pc = .ok (.dup_x2, 1))  (k : G X n cs sl I R (pc + 1) L (a :: b :: d :: a :: st)) : G X n cs sl I R pc L (a :: b :: d :: st) := G_pure hX (fun ad hx hb _ _ q => lv_dup_x2 hx hb hd (by rw [xcv_cat]; exact hc) (by rw [xcv_cat]; exact hc2) (by rw [xcv_cat]; exact hc3) q) k
theorem g_dup2 (hX : xOK X own cc nL lv kc ks) {a b : Value} (hc : a.category = 1) (hc2 : b.category = 1) (hd : decode cc pc = .ok (.dup2, 1))  (k : G X n cs sl I R (pc + 1) L (a :: b :: a :: b :: st)) : G X n cs sl I R pc L (a :: b :: st) := G_pure hX (fun ad hx hb _ _ q => lv_dup2_11 hx hb hd (by rw [xcv_cat]; exact hc) (by rw [xcv_cat]; exact hc2) q) k
theorem g_pop (hX : xOK X own cc nL lv kc ks) {a : Value} (hc : a.category = 1) (hd : decode cc pc = .ok (.pop, 1))  (k : G X n cs sl I R (pc + 1) L (st)) : G X n cs sl I R pc L (a :: st) := G_pure hX (fun ad hx hb _ _ q => lv_pop hx hb hd (by rw [xcv_cat]; exact hc) q) k
theorem g_ldc (hX : xOK X own cc nL lv kc ks) {index : Nat} {v : Int32} (hw : Jvm.Cond.constant own index v ∈ xgw) (hd : decode cc pc = .ok (.ldc index, 2)) (k : G X n cs sl I R (pc + 2) L (.int v :: st)) : G X n cs sl I R pc L st := G_pure hX (fun ad hx hb ho ht q => lv_ldc hx hb ho (ht _ hw) hd q) k
theorem g_ldcw (hX : xOK X own cc nL lv kc ks) {index : Nat} {v : Int32} (hw : Jvm.Cond.constant own index v ∈ xgw) (hd : decode cc pc = .ok (.ldc_w index, 3)) (k : G X n cs sl I R (pc + 3) L (.int v :: st)) : G X n cs sl I R pc L st := G_pure hX (fun ad hx hb ho ht q => lv_ldcw hx hb ho (ht _ hw) hd q) k
theorem g_ldc2 (hX : xOK X own cc nL lv kc ks) {index : Nat} {v : Int64} (hw : Jvm.Cond.constantLong own index v ∈ xgw) (hd : decode cc pc = .ok (.ldc2_w index, 3)) (k : G X n cs sl I R (pc + 3) L (.long v :: st)) : G X n cs sl I R pc L st := G_pure hX (fun ad hx hb ho ht q => lv_ldc2 hx hb ho (ht _ hw) hd q) k
theorem g_goto (hX : xOK X own cc nL lv kc ks) {off : Int} {tgt : Nat} (hd : decode cc pc = .ok (.goto off, 3)) (ht : (pc : Int) + off = (tgt : Int)) (k : G X n cs sl I R tgt L st) : G X n cs sl I R pc L st := G_pure hX (fun ad hx hb _ _ q => lv_goto hx hb hd ht q) k
theorem g_null (hX : xOK X own cc nL lv kc ks) (hd : decode cc pc = .ok (.aconst_null, 1)) (k : G X n cs sl I R (pc + 1) L (.null :: st)) : G X n cs sl I R pc L st := G_pure hX (fun ad hx hb _ _ q => lv_null hx hb hd q) k
theorem g_if_eq (hX : xOK X own cc nL lv kc ks) {x : Int32} {off : Int} {tgt : Nat} (hd : decode cc pc = .ok (.ifCond .eq off, 3)) (ht : (pc : Int) + off = (tgt : Int)) (kt : x = 0 → G X n cs sl I R tgt L st) (kf : ¬ x = 0 → G X n cs sl I R (pc + 3) L st) : G X n cs sl I R pc L (.int x :: st) := G_br hX (fun ad hx hb q1 q2 => lv_if_eq hx hb hd ht q1 q2) kt kf
theorem g_if_lt (hX : xOK X own cc nL lv kc ks) {x : Int32} {off : Int} {tgt : Nat} (hd : decode cc pc = .ok (.ifCond .lt off, 3)) (ht : (pc : Int) + off = (tgt : Int)) (kt : x < 0 → G X n cs sl I R tgt L st) (kf : ¬ x < 0 → G X n cs sl I R (pc + 3) L st) : G X n cs sl I R pc L (.int x :: st) := G_br hX (fun ad hx hb q1 q2 => lv_if_lt hx hb hd ht q1 q2) kt kf
theorem g_if_ge (hX : xOK X own cc nL lv kc ks) {x : Int32} {off : Int} {tgt : Nat} (hd : decode cc pc = .ok (.ifCond .ge off, 3)) (ht : (pc : Int) + off = (tgt : Int)) (kt : 0 ≤ x → G X n cs sl I R tgt L st) (kf : ¬ 0 ≤ x → G X n cs sl I R (pc + 3) L st) : G X n cs sl I R pc L (.int x :: st) := G_br hX (fun ad hx hb q1 q2 => lv_if_ge hx hb hd ht q1 q2) kt kf
theorem g_if_gt (hX : xOK X own cc nL lv kc ks) {x : Int32} {off : Int} {tgt : Nat} (hd : decode cc pc = .ok (.ifCond .gt off, 3)) (ht : (pc : Int) + off = (tgt : Int)) (kt : 0 < x → G X n cs sl I R tgt L st) (kf : ¬ 0 < x → G X n cs sl I R (pc + 3) L st) : G X n cs sl I R pc L (.int x :: st) := G_br hX (fun ad hx hb q1 q2 => lv_if_gt hx hb hd ht q1 q2) kt kf
theorem g_if_le (hX : xOK X own cc nL lv kc ks) {x : Int32} {off : Int} {tgt : Nat} (hd : decode cc pc = .ok (.ifCond .le off, 3)) (ht : (pc : Int) + off = (tgt : Int)) (kt : x ≤ 0 → G X n cs sl I R tgt L st) (kf : ¬ x ≤ 0 → G X n cs sl I R (pc + 3) L st) : G X n cs sl I R pc L (.int x :: st) := G_br hX (fun ad hx hb q1 q2 => lv_if_le hx hb hd ht q1 q2) kt kf
theorem g_icmp_eq (hX : xOK X own cc nL lv kc ks) {x y : Int32} {off : Int} {tgt : Nat} (hd : decode cc pc = .ok (.if_icmp .eq off, 3)) (ht : (pc : Int) + off = (tgt : Int)) (kt : x = y → G X n cs sl I R tgt L st) (kf : ¬ x = y → G X n cs sl I R (pc + 3) L st) : G X n cs sl I R pc L (.int y :: .int x :: st) := G_br hX (fun ad hx hb q1 q2 => lv_icmp_eq hx hb hd ht q1 q2) kt kf
theorem g_icmp_lt (hX : xOK X own cc nL lv kc ks) {x y : Int32} {off : Int} {tgt : Nat} (hd : decode cc pc = .ok (.if_icmp .lt off, 3)) (ht : (pc : Int) + off = (tgt : Int)) (kt : x < y → G X n cs sl I R tgt L st) (kf : ¬ x < y → G X n cs sl I R (pc + 3) L st) : G X n cs sl I R pc L (.int y :: .int x :: st) := G_br hX (fun ad hx hb q1 q2 => lv_icmp_lt hx hb hd ht q1 q2) kt kf
theorem g_icmp_ge (hX : xOK X own cc nL lv kc ks) {x y : Int32} {off : Int} {tgt : Nat} (hd : decode cc pc = .ok (.if_icmp .ge off, 3)) (ht : (pc : Int) + off = (tgt : Int)) (kt : y ≤ x → G X n cs sl I R tgt L st) (kf : ¬ y ≤ x → G X n cs sl I R (pc + 3) L st) : G X n cs sl I R pc L (.int y :: .int x :: st) := G_br hX (fun ad hx hb q1 q2 => lv_icmp_ge hx hb hd ht q1 q2) kt kf
theorem g_icmp_gt (hX : xOK X own cc nL lv kc ks) {x y : Int32} {off : Int} {tgt : Nat} (hd : decode cc pc = .ok (.if_icmp .gt off, 3)) (ht : (pc : Int) + off = (tgt : Int)) (kt : y < x → G X n cs sl I R tgt L st) (kf : ¬ y < x → G X n cs sl I R (pc + 3) L st) : G X n cs sl I R pc L (.int y :: .int x :: st) := G_br hX (fun ad hx hb q1 q2 => lv_icmp_gt hx hb hd ht q1 q2) kt kf
theorem g_icmp_le (hX : xOK X own cc nL lv kc ks) {x y : Int32} {off : Int} {tgt : Nat} (hd : decode cc pc = .ok (.if_icmp .le off, 3)) (ht : (pc : Int) + off = (tgt : Int)) (kt : x ≤ y → G X n cs sl I R tgt L st) (kf : ¬ x ≤ y → G X n cs sl I R (pc + 3) L st) : G X n cs sl I R pc L (.int y :: .int x :: st) := G_br hX (fun ad hx hb q1 q2 => lv_icmp_le hx hb hd ht q1 q2) kt kf
theorem g_if_ne (hX : xOK X own cc nL lv kc ks) {x : Int32} {off : Int} {tgt : Nat} (hd : decode cc pc = .ok (.ifCond .ne off, 3)) (ht : (pc : Int) + off = (tgt : Int)) (kt : ¬ x = 0 → G X n cs sl I R tgt L st) (kf : x = 0 → G X n cs sl I R (pc + 3) L st) : G X n cs sl I R pc L (.int x :: st) := G_br (P := ¬ x = 0) hX (fun ad hx hb q1 q2 => lv_if_ne hx hb hd ht q1 (fun z => q2 (fun y => y z))) kt (fun z => kf (Classical.not_not.mp z))
theorem g_icmp_ne (hX : xOK X own cc nL lv kc ks) {x y : Int32} {off : Int} {tgt : Nat} (hd : decode cc pc = .ok (.if_icmp .ne off, 3)) (ht : (pc : Int) + off = (tgt : Int)) (kt : ¬ x = y → G X n cs sl I R tgt L st) (kf : x = y → G X n cs sl I R (pc + 3) L st) : G X n cs sl I R pc L (.int y :: .int x :: st) := G_br (P := ¬ x = y) hX (fun ad hx hb q1 q2 => lv_icmp_ne hx hb hd ht q1 (fun z => q2 (fun y => y z))) kt (fun z => kf (Classical.not_not.mp z))
theorem g_iload_n (hX : xOK X own cc nL lv kc ks) {a : Fin 4} {i : Nat} {x : Int32} (hd : decode cc pc = .ok (.iload_n a, 1)) (hi : (a : Nat) = i) (j : Nat) (hj : L[j]? = some (i, .int x)) (k : G X n cs sl I R (pc + 1) L (.int x :: st)) : G X n cs sl I R pc L st := G_ld hX hj (fun ad hx hb z q => lv_iload_n hx hb hd hi z q) k
theorem g_iload (hX : xOK X own cc nL lv kc ks) {i : Nat} {x : Int32} (hd : decode cc pc = .ok (.iload i, 2)) (j : Nat) (hj : L[j]? = some (i, .int x)) (k : G X n cs sl I R (pc + 2) L (.int x :: st)) : G X n cs sl I R pc L st := G_ld hX hj (fun ad hx hb z q => lv_iload hx hb hd z q) k
theorem g_istore_n (hX : xOK X own cc nL lv kc ks) {a : Fin 4} {i : Nat} {x : Int32} {L' : List (Nat × Value)} (hd : decode cc pc = .ok (.istore_n a, 1)) (hi : (a : Nat) = i) (hn : i < nL) (hL : xlset L i (.int x) = L') (k : G X n cs sl I R (pc + 1) L' st) : G X n cs sl I R pc L (.int x :: st) := by
  obtain ⟨⟨p, l, e, Rm, s, m, args, below, meth, c⟩, Q, D, cy, A, B, n0, nL'⟩ := X
  obtain ⟨hx, hb, hml, rfl, hown, hts, hK, hA, hE, -⟩ := hX
  intro ad H locs ls hS hl
  exact lv_istore_n hx hb hd hi hl hn rfl (fun ls2 hl2 => k ad H locs ls2 hS (xlset_ok (ad := ad) rfl hL rfl hl2))
theorem g_istore (hX : xOK X own cc nL lv kc ks) {i : Nat} {x : Int32} {L' : List (Nat × Value)} (hd : decode cc pc = .ok (.istore i, 2)) (hn : i < nL) (hL : xlset L i (.int x) = L') (k : G X n cs sl I R (pc + 2) L' st) : G X n cs sl I R pc L (.int x :: st) := by
  obtain ⟨⟨p, l, e, Rm, s, m, args, below, meth, c⟩, Q, D, cy, A, B, n0, nL'⟩ := X
  obtain ⟨hx, hb, hml, rfl, hown, hts, hK, hA, hE, -⟩ := hX
  intro ad H locs ls hS hl
  exact lv_istore hx hb hd hl hn rfl (fun ls2 hl2 => k ad H locs ls2 hS (xlset_ok (ad := ad) rfl hL rfl hl2))
theorem g_aload_n (hX : xOK X own cc nL lv kc ks) {a : Fin 4} {i : Nat} {x : Nat} (hd : decode cc pc = .ok (.aload_n a, 1)) (hi : (a : Nat) = i) (j : Nat) (hj : L[j]? = some (i, .ref x)) (k : G X n cs sl I R (pc + 1) L (.ref x :: st)) : G X n cs sl I R pc L st := G_ld hX hj (fun ad hx hb z q => lv_aload_n hx hb hd hi z q) k
theorem g_aload (hX : xOK X own cc nL lv kc ks) {i : Nat} {x : Nat} (hd : decode cc pc = .ok (.aload i, 2)) (j : Nat) (hj : L[j]? = some (i, .ref x)) (k : G X n cs sl I R (pc + 2) L (.ref x :: st)) : G X n cs sl I R pc L st := G_ld hX hj (fun ad hx hb z q => lv_aload hx hb hd z q) k
theorem g_astore_n (hX : xOK X own cc nL lv kc ks) {a : Fin 4} {i : Nat} {x : Nat} {L' : List (Nat × Value)} (hd : decode cc pc = .ok (.astore_n a, 1)) (hi : (a : Nat) = i) (hn : i < nL) (hL : xlset L i (.ref x) = L') (k : G X n cs sl I R (pc + 1) L' st) : G X n cs sl I R pc L (.ref x :: st) := by
  obtain ⟨⟨p, l, e, Rm, s, m, args, below, meth, c⟩, Q, D, cy, A, B, n0, nL'⟩ := X
  obtain ⟨hx, hb, hml, rfl, hown, hts, hK, hA, hE, -⟩ := hX
  intro ad H locs ls hS hl
  exact lv_astore_n hx hb hd hi hl hn rfl (fun ls2 hl2 => k ad H locs ls2 hS (xlset_ok (ad := ad) rfl hL rfl hl2))
theorem g_astore (hX : xOK X own cc nL lv kc ks) {i : Nat} {x : Nat} {L' : List (Nat × Value)} (hd : decode cc pc = .ok (.astore i, 2)) (hn : i < nL) (hL : xlset L i (.ref x) = L') (k : G X n cs sl I R (pc + 2) L' st) : G X n cs sl I R pc L (.ref x :: st) := by
  obtain ⟨⟨p, l, e, Rm, s, m, args, below, meth, c⟩, Q, D, cy, A, B, n0, nL'⟩ := X
  obtain ⟨hx, hb, hml, rfl, hown, hts, hK, hA, hE, -⟩ := hX
  intro ad H locs ls hS hl
  exact lv_astore hx hb hd hl hn rfl (fun ls2 hl2 => k ad H locs ls2 hS (xlset_ok (ad := ad) rfl hL rfl hl2))
theorem g_lload_n (hX : xOK X own cc nL lv kc ks) {a : Fin 4} {i : Nat} {x : Int64} (hd : decode cc pc = .ok (.lload_n a, 1)) (hi : (a : Nat) = i) (j : Nat) (hj : L[j]? = some (i, .long x)) (k : G X n cs sl I R (pc + 1) L (.long x :: st)) : G X n cs sl I R pc L st := G_ld hX hj (fun ad hx hb z q => lv_lload_n hx hb hd hi z q) k
theorem g_lload (hX : xOK X own cc nL lv kc ks) {i : Nat} {x : Int64} (hd : decode cc pc = .ok (.lload i, 2)) (j : Nat) (hj : L[j]? = some (i, .long x)) (k : G X n cs sl I R (pc + 2) L (.long x :: st)) : G X n cs sl I R pc L st := G_ld hX hj (fun ad hx hb z q => lv_lload hx hb hd z q) k
theorem g_lstore_n (hX : xOK X own cc nL lv kc ks) {a : Fin 4} {i : Nat} {x : Int64} {L' : List (Nat × Value)} (hd : decode cc pc = .ok (.lstore_n a, 1)) (hi : (a : Nat) = i) (hn : i + 1 < nL) (hL : xlset L i (.long x) = L') (k : G X n cs sl I R (pc + 1) L' st) : G X n cs sl I R pc L (.long x :: st) := by
  obtain ⟨⟨p, l, e, Rm, s, m, args, below, meth, c⟩, Q, D, cy, A, B, n0, nL'⟩ := X
  obtain ⟨hx, hb, hml, rfl, hown, hts, hK, hA, hE, -⟩ := hX
  intro ad H locs ls hS hl
  exact lv_lstore_n hx hb hd hi hl hn rfl (fun ls2 hl2 => k ad H locs ls2 hS (xlset_ok2 (ad := ad) rfl hL rfl hl2))
theorem g_lstore (hX : xOK X own cc nL lv kc ks) {i : Nat} {x : Int64} {L' : List (Nat × Value)} (hd : decode cc pc = .ok (.lstore i, 2)) (hn : i + 1 < nL) (hL : xlset L i (.long x) = L') (k : G X n cs sl I R (pc + 2) L' st) : G X n cs sl I R pc L (.long x :: st) := by
  obtain ⟨⟨p, l, e, Rm, s, m, args, below, meth, c⟩, Q, D, cy, A, B, n0, nL'⟩ := X
  obtain ⟨hx, hb, hml, rfl, hown, hts, hK, hA, hE, -⟩ := hX
  intro ad H locs ls hS hl
  exact lv_lstore hx hb hd hl hn rfl (fun ls2 hl2 => k ad H locs ls2 hS (xlset_ok2 (ad := ad) rfl hL rfl hl2))
theorem g_iinc (hX : xOK X own cc nL lv kc ks) {i : Nat} {z : Int} {x v : Int32} {L' : List (Nat × Value)} (hd : decode cc pc = .ok (.iinc i z, 3)) (hn : i < nL) (j : Nat) (hj : L[j]? = some (i, .int x)) (hv : x + Int32.ofInt z = v) (hL : xlset L i (.int v) = L') (k : G X n cs sl I R (pc + 3) L' st) : G X n cs sl I R pc L st := by
  obtain ⟨⟨p, l, e, Rm, s, m, args, below, meth, c⟩, Q, D, cy, A, B, n0, nL'⟩ := X
  obtain ⟨hx, hb, hml, rfl, hown, hts, hK, hA, hE, -⟩ := hX
  intro ad H locs ls hS hl
  exact lv_iinc (k := j) hx hb hd hl (by rw [List.getElem?_map, hj]; rfl) hv hn rfl (fun ls2 hl2 => k ad H locs ls2 hS (xlset_ok (ad := ad) (v := .int v) rfl hL rfl hl2))
theorem g_tin (hX : xOK X own cc nL lv kc ks) {dflt lo hi : Int} {offs : Array Int} {len : Nat} {x : Int32} {off : Int} {tgt : Nat} (hd : decode cc pc = .ok (.tableswitch dflt lo hi offs, len)) (h1 : ¬ x.toInt < lo) (h2 : ¬ hi < x.toInt) (ho : offs[(x.toInt - lo).toNat]? = some off) (ht : (pc : Int) + off = (tgt : Int)) (k : G X n cs sl I R tgt L st) : G X n cs sl I R pc L (.int x :: st) := G_pure hX (fun ad hx hb _ _ q => lv_tableIn hx hb hd h1 h2 ho ht q) k
theorem g_tout (hX : xOK X own cc nL lv kc ks) {dflt lo hi : Int} {offs : Array Int} {len : Nat} {x : Int32} {tgt : Nat} (hd : decode cc pc = .ok (.tableswitch dflt lo hi offs, len)) (h : x.toInt < lo ∨ hi < x.toInt) (ht : (pc : Int) + dflt = (tgt : Int)) (k : G X n cs sl I R tgt L st) : G X n cs sl I R pc L (.int x :: st) := G_pure hX (fun ad hx hb _ _ q => lv_tableOut hx hb hd h ht q) k
end
