/-! WHERE THINGS LIE, once both objects are made -/
/-- a garden's number: the one that stands, the spare one, the days', the images' -/
def xG (g : Nat) : Prop := g = 8 ∨ g = 18 ∨ ∃ k, k < 26 ∧ g = 47 + 10 * k
theorem xG_n {g : Nat} (h : xG g) {j : Nat} (hj : j < 10) : g + j < 319 := by rcases h with h | h | ⟨k, h1, h⟩ <;> omega
theorem xG_d {j : Nat} : ∀ k, k < 26 → xK (47 + 10 * k + j) = xK (47 + 10 * k + j) := fun _ _ => rfl
theorem xG_kd : ∀ k, k < 26 → ∀ j, j < 10 → xK (47 + 10 * k + j) = xK2.getD j 99 ∧ xN (47 + 10 * k + j) = xN2.getD j 0 := by decide +kernel
theorem xG_ks : ∀ j, j < 10 → (xK (8 + j) = xK2.getD j 99 ∧ xN (8 + j) = xN2.getD j 0) ∧ (xK (18 + j) = xK2.getD j 99 ∧ xN (18 + j) = xN2.getD j 0) := by decide +kernel
theorem xG_kn {g : Nat} (h : xG g) (j : Nat) (hj : j < 10) : xK (g + j) = xK2.getD j 99 ∧ xN (g + j) = xN2.getD j 0 := by
  rcases h with rfl | rfl | ⟨k, h1, rfl⟩
  · exact (xG_ks j hj).1
  · exact (xG_ks j hj).2
  · exact xG_kd k h1 j hj
theorem xG_K0 {g : Nat} (h : xG g) : xK g = 0 := (xG_kn h 0 (by decide)).1
theorem xG_K1 {g : Nat} (h : xG g) : xK (g + 1) = 8 := (xG_kn h 1 (by decide)).1
theorem xG_K2 {g : Nat} (h : xG g) : xK (g + 2) = 8 := (xG_kn h 2 (by decide)).1
theorem xG_K3 {g : Nat} (h : xG g) : xK (g + 3) = 8 := (xG_kn h 3 (by decide)).1
theorem xG_K4 {g : Nat} (h : xG g) : xK (g + 4) = 8 := (xG_kn h 4 (by decide)).1
theorem xG_K5 {g : Nat} (h : xG g) : xK (g + 5) = 8 := (xG_kn h 5 (by decide)).1
theorem xG_K6 {g : Nat} (h : xG g) : xK (g + 6) = 8 := (xG_kn h 6 (by decide)).1
theorem xG_K7 {g : Nat} (h : xG g) : xK (g + 7) = 8 := (xG_kn h 7 (by decide)).1
theorem xG_K8 {g : Nat} (h : xG g) : xK (g + 8) = 8 := (xG_kn h 8 (by decide)).1
theorem xG_K9 {g : Nat} (h : xG g) : xK (g + 9) = 9 := (xG_kn h 9 (by decide)).1
theorem xG_N1 {g : Nat} (h : xG g) : xN (g + 1) = 20 := (xG_kn h 1 (by decide)).2
theorem xG_N2 {g : Nat} (h : xG g) : xN (g + 2) = 6 := (xG_kn h 2 (by decide)).2
theorem xG_N3 {g : Nat} (h : xG g) : xN (g + 3) = 6 := (xG_kn h 3 (by decide)).2
theorem xG_N4 {g : Nat} (h : xG g) : xN (g + 4) = 6 := (xG_kn h 4 (by decide)).2
theorem xG_N5 {g : Nat} (h : xG g) : xN (g + 5) = 6 := (xG_kn h 5 (by decide)).2
theorem xG_N6 {g : Nat} (h : xG g) : xN (g + 6) = 6 := (xG_kn h 6 (by decide)).2
theorem xG_N7 {g : Nat} (h : xG g) : xN (g + 7) = 6 := (xG_kn h 7 (by decide)).2
theorem xG_N8 {g : Nat} (h : xG g) : xN (g + 8) = 6 := (xG_kn h 8 (by decide)).2
theorem xG_N9 {g : Nat} (h : xG g) : xN (g + 9) = 6 := (xG_kn h 9 (by decide)).2
theorem xW_kd : ∀ r, r < 8 → xK (31 + 2 * r) = 2 ∧ xK (32 + 2 * r) = 8 ∧ xN (32 + 2 * r) = 40 := by decide +kernel
theorem xW_n {r : Nat} (h : r < 8) {j : Nat} (hj : j < 2) : 31 + 2 * r + j < 319 := by omega
theorem xW_K0 {r : Nat} (h : r < 8) : xK (31 + 2 * r) = 2 := (xW_kd r h).1
theorem xW_K1 {r : Nat} (h : r < 8) : xK (32 + 2 * r) = 8 := (xW_kd r h).2.1
theorem xW_N1 {r : Nat} (h : r < 8) : xN (32 + 2 * r) = 40 := (xW_kd r h).2.2
def xRL (nw sp : Nat) : xR := fun i k =>
  if i = 307 then ([none, none, some 308, some 309, some 310, some 311, some 312, none, some 313, none, some 314, none, none, none, none, none, none, none, none, none, some 315, some 316, some 317, some 318] : List (Option Nat)).getD k none
  else if i = 0 then ([some 1, some 2, some 4, some 6, some nw, some sp, none, some 28, none, none, some 29, some 30] : List (Option Nat)).getD k none
  else if i = 1 then (if k < 8 then some (31 + 2 * k) else none)
  else if i = 2 then (if k = 0 then some 3 else none)
  else if i = 4 then (if k = 0 then some 5 else none)
  else if i = 6 then (if k = 0 then some 7 else none)
  else if i = 28 then (if k < 24 then some (47 + 10 * k) else none)
  else if i = 29 then (if k < 2 then some (287 + 10 * k) else none)
  else if xK i = 0 then (([some 1, none, none, none, some 2, some 3, some 4, some 5, some 6, none, some 7, some 8, some 9] : List (Option Nat)).getD k none).map (fun o => i + o)
  else if xK i = 2 then (if k = 3 then some (i + 1) else none)
  else none
theorem xRL_g {g : Nat} (h : xG g) (nw sp k : Nat) : xRL nw sp g k = (([some 1, none, none, none, some 2, some 3, some 4, some 5, some 6, none, some 7, some 8, some 9] : List (Option Nat)).getD k none).map (fun o => g + o) := by
  have hk := xG_K0 h
  have h0 : g ≠ 307 ∧ g ≠ 0 ∧ g ≠ 1 ∧ g ≠ 2 ∧ g ≠ 4 ∧ g ≠ 6 ∧ g ≠ 28 ∧ g ≠ 29 := by rcases h with h | h | ⟨k, h1, h⟩ <;> omega
  simp only [xRL, hk, h0.1, h0.2.1, h0.2.2.1, h0.2.2.2.1, h0.2.2.2.2.1, h0.2.2.2.2.2.1, h0.2.2.2.2.2.2.1, h0.2.2.2.2.2.2.2, if_false, if_true]
theorem xRL_g0 {nw sp g : Nat} (h : xG g) : xRL nw sp g 0 = some (g + 1) := xRL_g h nw sp 0
theorem xRL_g4 {nw sp g : Nat} (h : xG g) : xRL nw sp g 4 = some (g + 2) := xRL_g h nw sp 4
theorem xRL_g5 {nw sp g : Nat} (h : xG g) : xRL nw sp g 5 = some (g + 3) := xRL_g h nw sp 5
theorem xRL_g6 {nw sp g : Nat} (h : xG g) : xRL nw sp g 6 = some (g + 4) := xRL_g h nw sp 6
theorem xRL_g7 {nw sp g : Nat} (h : xG g) : xRL nw sp g 7 = some (g + 5) := xRL_g h nw sp 7
theorem xRL_g8 {nw sp g : Nat} (h : xG g) : xRL nw sp g 8 = some (g + 6) := xRL_g h nw sp 8
theorem xRL_g10 {nw sp g : Nat} (h : xG g) : xRL nw sp g 10 = some (g + 7) := xRL_g h nw sp 10
theorem xRL_g11 {nw sp g : Nat} (h : xG g) : xRL nw sp g 11 = some (g + 8) := xRL_g h nw sp 11
theorem xRL_g12 {nw sp g : Nat} (h : xG g) : xRL nw sp g 12 = some (g + 9) := xRL_g h nw sp 12
theorem xRL_w {nw sp r : Nat} (h : r < 8) : xRL nw sp (31 + 2 * r) 3 = some (32 + 2 * r) := by
  have hk := xW_K0 h
  have h0 : 31 + 2 * r ≠ 307 ∧ 31 + 2 * r ≠ 0 ∧ 31 + 2 * r ≠ 1 ∧ 31 + 2 * r ≠ 2 ∧ 31 + 2 * r ≠ 4 ∧ 31 + 2 * r ≠ 6 ∧ 31 + 2 * r ≠ 28 ∧ 31 + 2 * r ≠ 29 := by omega
  simp only [xRL, hk, h0.1, h0.2.1, h0.2.2.1, h0.2.2.2.1, h0.2.2.2.2.1, h0.2.2.2.2.2.1, h0.2.2.2.2.2.2.1, h0.2.2.2.2.2.2.2, if_false, if_true, show ¬ (2 : Nat) = 0 by decide]
  congr 1
  omega
theorem xRL_rows {nw sp r : Nat} (h : r < 8) : xRL nw sp 1 r = some (31 + 2 * r) := by simp [xRL, h]
theorem xRL_days {nw sp k : Nat} (h : k < 24) : xRL nw sp 28 k = some (47 + 10 * k) := by simp [xRL, h]
theorem xRL_images {nw sp k : Nat} (h : k < 2) : xRL nw sp 29 k = some (287 + 10 * k) := by simp [xRL, h]
theorem xput_e {I : xM} {a k : Nat} {v : Int32} : xput I a k v a k = v := by simp [xput, va_up, upd]
theorem xput_i {I : xM} {a k j : Nat} {v w : Int32} (h : j ≠ k) (e : I a j = w) : xput I a k v a j = w := by simp [xput, va_up, upd, h, e]
theorem xput_o {I : xM} {a b k j : Nat} {v w : Int32} (h : b ≠ a) (e : I b j = w) : xput I a k v b j = w := by simp [xput, va_up, h, e]
theorem xrow_o {I : xM} {a b : Nat} {f : Nat → Int32} (h : b ≠ a) : xrow I a f b = I b := va_up_ne _ _ h
theorem xrow_e {I : xM} {a : Nat} {f : Nat → Int32} : xrow I a f a = f := va_up_self _ _ _
theorem xb_nar9 {P : Prop} : vp_nar .boolean (xb P) = xb P := by rcases xb_or P with ⟨_, h⟩ | ⟨_, h⟩ <;> rw [h] <;> rfl
/-! ENDS, by kind -/
def xpI (e : Int32) (n : Nat) (I : xM) (R : xR) : xP := fun v n' I' R' => v = some (.int e) ∧ n' = n ∧ I' = I ∧ R' = R
def xpJ (e : Int64) (n : Nat) (I : xM) (R : xR) : xP := fun v n' I' R' => v = some (.long e) ∧ n' = n ∧ I' = I ∧ R' = R
def xpV (n : Nat) (I : xM) (R : xR) : xP := fun v n' I' R' => v = none ∧ n' = n ∧ I' = I ∧ R' = R
def xpR (n : Nat) (R : xR) (P : Int32 → xM → Prop) : xP := fun v n' I' R' => ∃ r, v = some (.int r) ∧ n' = n ∧ P r I' ∧ R' = R
def xpW (n : Nat) (R : xR) (P : xM → Prop) : xP := fun v n' I' R' => v = none ∧ n' = n ∧ P I' ∧ R' = R
section
variable {X : xX} {own : String} {cc : ByteArray} {nL lv kc ks n cs sl pc : Nat} {I J : xM} {R : xR} {L : List (Nat × Value)} {st stk : List Value}
variable {y : MethodName} {b : ByteArray} {maxL lvc np index : Nat} {ret : Option FieldType} {as : List Value}
theorem g_callVi (hX : xOK X own cc nL lv kc ks) {i c N : Nat} {C : String} {T : u_T} {ty : Nat → FieldType} {e : Int32} (hM : ∀ l, xC l lvc 0 0 y b maxL ret n (.ref i :: as) I R (xpI e n J R)) (hy : xMt y b maxL ret np) (hv : xMv y) (hlk : xLm own index y) (hn : i < n) (hc : xK i = c) (hC : xCl c C T N ty) (hyC : y.cls = C) (hlen : as.length = np) (hd : decode cc pc = .ok (.invokevirtual index, 3)) (hst : stk = as.reverse ++ .ref i :: st) (hlv : lvc + 1 ≤ lv) (hroom : (st.map fun v => v.category).sum ≤ 8) (hcs : cs ≤ kc) (hsl : sl ≤ ks)
    (kk : G X n cs sl J R (pc + 3) L (.int e :: st)) : G X n cs sl I R pc L stk := by
  refine g_callV hX hM hy hv hlk hn hc hC hyC hlen hd hst hlv hroom hcs hsl (fun v n' I' R' h => ?_)
  obtain ⟨rfl, rfl, rfl, rfl⟩ := h
  exact ⟨rfl, kk⟩
theorem g_callVl (hX : xOK X own cc nL lv kc ks) {i c N : Nat} {C : String} {T : u_T} {ty : Nat → FieldType} {e : Int64} (hM : ∀ l, xC l lvc 0 0 y b maxL ret n (.ref i :: as) I R (xpJ e n J R)) (hy : xMt y b maxL ret np) (hv : xMv y) (hlk : xLm own index y) (hn : i < n) (hc : xK i = c) (hC : xCl c C T N ty) (hyC : y.cls = C) (hlen : as.length = np) (hd : decode cc pc = .ok (.invokevirtual index, 3)) (hst : stk = as.reverse ++ .ref i :: st) (hlv : lvc + 1 ≤ lv) (hroom : (st.map fun v => v.category).sum ≤ 8) (hcs : cs ≤ kc) (hsl : sl ≤ ks)
    (kk : G X n cs sl J R (pc + 3) L (.long e :: st)) : G X n cs sl I R pc L stk := by
  refine g_callV hX hM hy hv hlk hn hc hC hyC hlen hd hst hlv hroom hcs hsl (fun v n' I' R' h => ?_)
  obtain ⟨rfl, rfl, rfl, rfl⟩ := h
  exact ⟨rfl, kk⟩
theorem g_callVv (hX : xOK X own cc nL lv kc ks) {i c N : Nat} {C : String} {T : u_T} {ty : Nat → FieldType} (hM : ∀ l, xC l lvc 0 0 y b maxL ret n (.ref i :: as) I R (xpV n J R)) (hy : xMt y b maxL ret np) (hv : xMv y) (hlk : xLm own index y) (hn : i < n) (hc : xK i = c) (hC : xCl c C T N ty) (hyC : y.cls = C) (hlen : as.length = np) (hd : decode cc pc = .ok (.invokevirtual index, 3)) (hst : stk = as.reverse ++ .ref i :: st) (hlv : lvc + 1 ≤ lv) (hroom : (st.map fun v => v.category).sum ≤ 8) (hcs : cs ≤ kc) (hsl : sl ≤ ks)
    (kk : G X n cs sl J R (pc + 3) L st) : G X n cs sl I R pc L stk := by
  refine g_callV hX hM hy hv hlk hn hc hC hyC hlen hd hst hlv hroom hcs hsl (fun v n' I' R' h => ?_)
  obtain ⟨rfl, rfl, rfl, rfl⟩ := h
  exact ⟨rfl, kk⟩
theorem g_callVr (hX : xOK X own cc nL lv kc ks) {i c N : Nat} {C : String} {T : u_T} {ty : Nat → FieldType} {P : Int32 → xM → Prop} (hM : ∀ l, xC l lvc 0 0 y b maxL ret n (.ref i :: as) I R (xpR n R P)) (hy : xMt y b maxL ret np) (hv : xMv y) (hlk : xLm own index y) (hn : i < n) (hc : xK i = c) (hC : xCl c C T N ty) (hyC : y.cls = C) (hlen : as.length = np) (hd : decode cc pc = .ok (.invokevirtual index, 3)) (hst : stk = as.reverse ++ .ref i :: st) (hlv : lvc + 1 ≤ lv) (hroom : (st.map fun v => v.category).sum ≤ 8) (hcs : cs ≤ kc) (hsl : sl ≤ ks)
    (kk : ∀ (e : Int32) (J : xM), P e J → G X n cs sl J R (pc + 3) L (.int e :: st)) : G X n cs sl I R pc L stk := by
  refine g_callV hX hM hy hv hlk hn hc hC hyC hlen hd hst hlv hroom hcs hsl (fun v n' I' R' h => ?_)
  obtain ⟨e, rfl, rfl, hp, rfl⟩ := h
  exact ⟨rfl, kk e I' hp⟩
theorem g_callVrv (hX : xOK X own cc nL lv kc ks) {i c N : Nat} {C : String} {T : u_T} {ty : Nat → FieldType} {P : xM → Prop} (hM : ∀ l, xC l lvc 0 0 y b maxL ret n (.ref i :: as) I R (xpW n R P)) (hy : xMt y b maxL ret np) (hv : xMv y) (hlk : xLm own index y) (hn : i < n) (hc : xK i = c) (hC : xCl c C T N ty) (hyC : y.cls = C) (hlen : as.length = np) (hd : decode cc pc = .ok (.invokevirtual index, 3)) (hst : stk = as.reverse ++ .ref i :: st) (hlv : lvc + 1 ≤ lv) (hroom : (st.map fun v => v.category).sum ≤ 8) (hcs : cs ≤ kc) (hsl : sl ≤ ks)
    (kk : ∀ (J : xM), P J → G X n cs sl J R (pc + 3) L st) : G X n cs sl I R pc L stk := by
  refine g_callV hX hM hy hv hlk hn hc hC hyC hlen hd hst hlv hroom hcs hsl (fun v n' I' R' h => ?_)
  obtain ⟨rfl, rfl, hp, rfl⟩ := h
  exact ⟨rfl, kk I' hp⟩
theorem g_callSi (hX : xOK X own cc nL lv kc ks) {e : Int32} (hM : ∀ l, xC l lvc 0 0 y b maxL ret n as I R (xpI e n J R)) (hy : xMt y b maxL ret np) (hv : Cond.static y ∈ xgw) (hlk : xLm own index y) (hlen : as.length = np) (hd : decode cc pc = .ok (.invokestatic index, 3)) (hst : stk = as.reverse ++ st) (hlv : lvc + 1 ≤ lv) (hroom : (st.map fun v => v.category).sum ≤ 8) (hcs : cs ≤ kc) (hsl : sl ≤ ks)
    (kk : G X n cs sl J R (pc + 3) L (.int e :: st)) : G X n cs sl I R pc L stk := by
  refine g_callS hX hM hy hv hlk hlen hd hst hlv hroom hcs hsl (fun v n' I' R' h => ?_)
  obtain ⟨rfl, rfl, rfl, rfl⟩ := h
  exact ⟨rfl, kk⟩
theorem g_callSv (hX : xOK X own cc nL lv kc ks) (hM : ∀ l, xC l lvc 0 0 y b maxL ret n as I R (xpV n J R)) (hy : xMt y b maxL ret np) (hv : Cond.static y ∈ xgw) (hlk : xLm own index y) (hlen : as.length = np) (hd : decode cc pc = .ok (.invokestatic index, 3)) (hst : stk = as.reverse ++ st) (hlv : lvc + 1 ≤ lv) (hroom : (st.map fun v => v.category).sum ≤ 8) (hcs : cs ≤ kc) (hsl : sl ≤ ks)
    (kk : G X n cs sl J R (pc + 3) L st) : G X n cs sl I R pc L stk := by
  refine g_callS hX hM hy hv hlk hlen hd hst hlv hroom hcs hsl (fun v n' I' R' h => ?_)
  obtain ⟨rfl, rfl, rfl, rfl⟩ := h
  exact ⟨rfl, kk⟩
theorem g_callSr (hX : xOK X own cc nL lv kc ks) {P : Int32 → xM → Prop} (hM : ∀ l, xC l lvc 0 0 y b maxL ret n as I R (xpR n R P)) (hy : xMt y b maxL ret np) (hv : Cond.static y ∈ xgw) (hlk : xLm own index y) (hlen : as.length = np) (hd : decode cc pc = .ok (.invokestatic index, 3)) (hst : stk = as.reverse ++ st) (hlv : lvc + 1 ≤ lv) (hroom : (st.map fun v => v.category).sum ≤ 8) (hcs : cs ≤ kc) (hsl : sl ≤ ks)
    (kk : ∀ (e : Int32) (J : xM), P e J → G X n cs sl J R (pc + 3) L (.int e :: st)) : G X n cs sl I R pc L stk := by
  refine g_callS hX hM hy hv hlk hlen hd hst hlv hroom hcs hsl (fun v n' I' R' h => ?_)
  obtain ⟨e, rfl, rfl, hp, rfl⟩ := h
  exact ⟨rfl, kk e I' hp⟩
theorem g_tsI (hX : xOK X own cc nL lv kc ks) {dflt lo hi : Int} {offs : Array Int} {len : Nat} {x : Int32} {a v off : Int} {tgt : Nat} (hd : decode cc pc = .ok (.tableswitch dflt lo hi offs, len)) (ha : x.toInt = a) (hv : a = v) (h1 : lo ≤ v) (h2 : v ≤ hi) (ho : offs[(v - lo).toNat]? = some off) (ht : (pc : Int) + off = (tgt : Int)) (k : G X n cs sl I R tgt L st) : G X n cs sl I R pc L (.int x :: st) :=
  g_tin hX hd (by omega) (by omega) (by rw [ha, hv]; exact ho) ht k
theorem g_tsO (hX : xOK X own cc nL lv kc ks) {dflt lo hi : Int} {offs : Array Int} {len : Nat} {x : Int32} {a : Int} {tgt : Nat} (hd : decode cc pc = .ok (.tableswitch dflt lo hi offs, len)) (ha : x.toInt = a) (h : a < lo ∨ hi < a) (ht : (pc : Int) + dflt = (tgt : Int)) (k : G X n cs sl I R tgt L st) : G X n cs sl I R pc L (.int x :: st) :=
  g_tout hX hd (by rw [ha]; exact h) ht k
end
theorem xb_iffI {v lo hi : Int64} {a b c : Int} (h1 : v.toInt = a) (h2 : lo.toInt = b) (h3 : hi.toInt = c) : xb (Int64.toInt lo ≤ Int64.toInt v ∧ Int64.toInt v ≤ Int64.toInt hi) = xb (b ≤ a ∧ a ≤ c) := by subst h1; subst h2; subst h3; rfl
